section
/-! ===== BEGIN words of one list among another's, by their places ===== -/
theorem goodIn_r {big : List Cond} (ws : List Cond) (ps : List Nat) (hp : ws = ps.filterMap (fun i => big[i]?)) (h : ws.all goodWord = true) : GoodIn big ws := by
  intro w hw
  have h1 := List.all_eq_true.mp h w hw
  rw [hp] at hw
  obtain ⟨i, -, hi⟩ := List.mem_filterMap.mp hw
  have hm : w ∈ big := by first | exact List.mem_of_getElem? hi | exact List.getElem?_mem hi
  exact ⟨hm, good_of_word h1⟩
theorem goodIn_app {big a b : List Cond} (ha : GoodIn big a) (hb : GoodIn big b) : GoodIn big (a ++ b) := fun w h => (List.mem_append.mp h).elim (ha w) (hb w)
theorem goodIn_ca {big a b : List Cond} {c : Cond} (ha : GoodIn big (c :: a)) (hb : GoodIn big b) : GoodIn big (c :: (a ++ b)) := fun w h => (List.mem_cons.mp h).elim (fun e => ha w (List.mem_cons.mpr (Or.inl e))) (fun h => (List.mem_append.mp h).elim (fun h => ha w (List.mem_cons.mpr (Or.inr h))) (hb w))
theorem goodIn_sub {big ws : List Cond} (hm : ∀ w ∈ ws, w ∈ big) (h : ws.all goodWord = true) : GoodIn big ws := fun w hw => ⟨hm w hw, good_of_word (List.all_eq_true.mp h w hw)⟩
/-! ===== END ===== -/

/-! ===== BEGIN exceptions that leave a method, and their catching by the caller (launches without stack traces) ===== -/
section VXA
/-! The laws vx_back, vx_callV, vx_callS, vx_callSW, vx_throw0, vx_throwS follow proofs of the library, with one case more: JvmDerived/Free/Laws.lean (Back.of_free), Shelf42/LK1.lean (callV, callS), Shelf/KitTraced.lean (throwNew0V, throwNewS). -/
/-- where a method has thrown q: the class by its name, the cell, what was written, the world -/
def vx_T (XC : String → State → State → Prop) (st : State) (q : Addr) (t : State) (mc ms : Nat) (free : Addr → Prop) : Prop :=
  ∃ (E : String) (ce : Cell) (L : List Loc), XC E st t ∧ t.heap[q]? = some ce ∧ ce.vm = .none ∧ st.vm.findClass E = some ce.cls ∧ st.WarmedH t.vm ∧ st.sameButNew ({ t with vm := st.vm } : State) L mc ms ∧ ∀ z ∈ L, free z.base
def vx_Q (Qc : Array Value → State → Outcome → State → Prop) (XC : String → State → State → Prop) (mc ms : Nat) (free : Addr → Prop) : Array Value → State → Outcome → State → Prop := fun a st o t =>
  (Qc a st o t ∧ ∃ L, FrameEnd st o t L mc ms ∧ ∀ q ∈ L, free q.base) ∨ ∃ q, o = .threw q ∧ vx_T XC st q t mc ms free
/-- a callee that returns or throws -/
def vx_Met (l : Launch) (y : MethodName) (ws : List Cond) (rm : Room) (Pc : Array Value → State → Prop) (Qc : Array Value → State → Outcome → State → Prop) (XC : String → State → State → Prop) (mc ms : Nat) (free : Addr → Prop) : Prop :=
  MetFree l y (headSpec ws rm) Pc (fun _ _ _ _ _ => True) (vx_Q Qc XC mc ms free)
def vx_Post (XC : String → State → State → Prop) (mc ms : Nat) (free : Addr → Prop) : Pt → Array Value → Addr → Pt → Prop := fun A a q B =>
  ∃ (g : JFrame) (mk : MethodId) (t : State) (L : List Loc) (E : String) (ce : Cell), B.U.heap = t.heap ∧ B.U.vm = t.vm ∧ XC E (A.U.calling g mk a) t ∧ t.heap[q]? = some ce ∧ ce.vm = .none ∧ A.U.vm.findClass E = some ce.cls ∧ B.locs = A.locs ++ L ∧ (∀ z ∈ L, free z.base) ∧ B.cells = A.cells + mc ∧ B.slots = A.slots + ms
def vx_Back (l : Launch) (R : Room) (p : Program) (e : Env) (below : List Frame) (s : State) (sargs : Array Value) (y : MethodName) (len W9 : Nat)
    (Pre : Pt → Array Value → Prop) (Post : Pt → Array Value → Option Value → Pt → Prop) (PostX : Pt → Array Value → Addr → Pt → Prop) : Prop :=
  ∀ (m : MethodId) (meth : Method) (c : Code) (A : Pt) (g : JFrame) (ig : Instr) (mk : MethodId) (a : Array Value),
    Stand p l e R s m sargs below meth c A.U A.locs A.cells A.slots → g.method = m → g.locals.size = c.maxLocals → decode c.code g.pc = .ok (ig, len) →
    2 * g.monitorRoom + (g.stack.map fun v => v.category).sum ≤ W9 → A.U.methodNamed? y = some mk → Pre A a →
    (∃ (v : Option Value) (B : Pt), Stand p l e R s m sargs below meth c B.U B.locs B.cells B.slots ∧ Post A a v B ∧
      Steps p.tables e below (doInvoke e (A.U.setTop g) [] mk a).1 (B.U.setTop { g with pc := g.pc + len, stack := v.toList ++ g.stack })) ∨
    (∃ (q : Addr) (B : Pt), Stand p l e R s m sargs below meth c B.U B.locs B.cells B.slots ∧ PostX A a q B ∧
      Steps p.tables e below (doInvoke e (A.U.setTop g) [] mk a).1 ((B.U.setTop g).pushFrame (.throwing q)))
section Payer
variable {l : Launch} {R : Room} {p : Program} {e : Env} {below : List Frame} {s : State} {sargs : Array Value} {y : MethodName} {len W9 : Nat}
theorem vx_back {ws : List Cond} {rm : Room} {Pc : Array Value → State → Prop} {Qc : Array Value → State → Outcome → State → Prop} {XC : String → State → State → Prop} {mc ms : Nat} {free : Addr → Prop} {bytes : ByteArray} {maxL : Nat} {ret : Option FieldType}
    (hM : vx_Met l y ws rm Pc Qc XC mc ms free) (hblind : FrameBlind Pc) (hrc : rm.cells = mc) (hrs : rm.slots = ms)
    (hframes : rm.frames + 1 ≤ R.frames) (hlocals : W9 + (maxL + 11) + rm.locals ≤ R.locals)
    (hws : ∀ w ∈ ws, ∀ a' U, s.WarmedH U.vm → w.before a' U = true) (hcode : Cond.code y bytes maxL ret ∈ ws) (hinit : ∀ a' U, s.WarmedH U.vm → (Cond.initialized y.cls).before a' U = true) :
    vx_Back l R p e below s sargs y len W9 (PreOf R mc ms Pc) (PostOf Qc mc ms free) (vx_Post XC mc ms free) := by
  intro m meth c A g ig mk a X hg hsize hdg hW hn hp
  have h1 : (headSpec ws rm).pre.before a A.U = true := atoms_intro fun w hw => hws w hw _ _ X.warmed
  have h2 : (Cond.code y bytes maxL ret).before a A.U = true := hws _ hcode _ _ X.warmed
  have h3 : (Cond.initialized y.cls).before a A.U = true := hinit _ _ X.warmed
  have h4 : A.cells + (headSpec ws rm).room.cells ≤ R.cells := by rw [show (headSpec ws rm).room.cells = mc from hrc]; exact hp.1
  have h5 : A.slots + (headSpec ws rm).room.slots ≤ R.slots := by rw [show (headSpec ws rm).room.slots = ms from hrs]; exact hp.2.1
  have hPc : Pc a (A.U.calling g mk a) := hblind _ _ _ _ hp.2.2
  obtain ⟨U, Ls, c0, s0⟩ := A
  dsimp only [Pt.U, Pt.locs, Pt.cells, Pt.slots] at h1 h2 h3 h4 h5 X hn hPc ⊢
  obtain ⟨methY, cY, hmY, hcY, -, hlY, -, -, -, -⟩ := Cond.code_spec hn h2
  obtain ⟨kY, hkY, -⟩ := className_of_methodNamed hn
  have hinitY : kY.init = .initialized := Cond.initialized_spec (findClass_of_methodNamed hn) hkY h3
  have h : At U g.method c below := by rw [hg]; exact X.here
  have hlocals9 : W9 + (maxL + 11) + (headSpec ws rm).room.locals ≤ R.locals := hlocals
  have happ : (headSpec ws rm).appliesLoose y e.platform (U.calling g mk a) = true :=
    Spec.appliesLoose_calling (g := g) h hdg hn hkY hinitY
      (X.room_calling (g := g) (R' := (headSpec ws rm).room) hsize hmY hcY hframes (by rw [hlY]; omega) h4 h5) h1
  obtain ⟨mid, hmid⟩ := h.above
  have hfr : (U.setTop g).frames = (.java g :: mid) ++ below := by rw [State.frames_setTop' g h.top, hmid]; rfl
  obtain ⟨o, s₂, hsteps, -, hend, hq⟩ := Steps.callFree hM p X.admits X.cas X.clock (acts := []) hfr happ hPc trivial
  have hq' : vx_Q Qc XC mc ms free a (U.calling g mk a) o s₂ := hq
  rw [State.frames_setTop' g h.top] at hend
  obtain ⟨g₀, hg0⟩ := Option.isSome_iff_exists.mp h.top
  obtain ⟨r, hr⟩ := State.topJava?_eq_some.mp hg0
  have hr' : (({ U with heap := s₂.heap, slotsUsed := s₂.slotsUsed } : State).setVm s₂.vm).frames = .java g₀ :: r := hr
  rcases hq' with ⟨hqc, L, hfe, hL⟩ | ⟨q, rfl, E, ce, L, hx, hce, hcv, hcl, hW₂, hsm, hL⟩
  · obtain ⟨⟨v, rfl⟩, hW₂, e2, q2, q3, q4, q5, q6⟩ := id hfe
    have e3 : s₂ = ({ (U.calling g mk a).setFrames s₂.frames with heap := s₂.heap, slotsUsed := s₂.slotsUsed } : State).setVm s₂.vm := by
      have : s₂ = ({ s₂ with vm := (U.calling g mk a).vm } : State).setVm s₂.vm := rfl
      rw [e2] at this
      exact this
    obtain ⟨c₂, i₂, len₂, hc₂, hd₂, hf₂⟩ := hend
    have hW' : U.WarmedH s₂.vm := hW₂
    have hcc : c₂ = c := by
      have h1 : s₂.code? g.method = U.code? g.method := by
        rw [State.code?_eq, State.code?_eq, hW'.alike.method?]
      exact Option.some.inj (hc₂.symm.trans (h1.trans h.code))
    subst hcc
    have hlen : len₂ = len := by rw [hdg] at hd₂; cases hd₂; rfl
    subst hlen
    have hs₂ : s₂ = (({ U with heap := s₂.heap, slotsUsed := s₂.slotsUsed } : State).setVm s₂.vm).setTop { g with pc := g.pc + len₂, stack := v.toList ++ g.stack } := by
      refine e3.trans ?_
      rw [hf₂, State.calling_eq h.top, State.setFrames_setFrames, State.setTop_of_frames _ hr', hr]
      rfl
    have hsame : U.sameButNew ({ U with heap := s₂.heap, slotsUsed := s₂.slotsUsed } : State) L mc ms := by
      refine ⟨?_, q2, q3, q4, q5, q6⟩
      obtain ⟨t, ht, -⟩ := State.frames_cons hr
      show ({ U with heap := s₂.heap, slotsUsed := s₂.slotsUsed } : State) = { U.setFrames U.frames with heap := s₂.heap, slotsUsed := s₂.slotsUsed }
      rw [State.setFrames_self ht]
    subst hg
    refine Or.inl ⟨v, ⟨(({ U with heap := s₂.heap, slotsUsed := s₂.slotsUsed } : State).setVm s₂.vm), Ls ++ L, c0 + mc, s0 + ms⟩,
      ⟨X.admits, X.cas, X.clock, X.frames, X.room, X.hears, X.method, X.code, (X.here.setHeapUsed s₂.heap s₂.slotsUsed).setVm hW'.alike, X.tail, State.WarmedH.trans X.warmed hW', X.limits, X.bytes, X.same.trans (hsame.setVm s.vm)⟩,
      ⟨g, mk, s₂, L, rfl, rfl, hqc, rfl, hL, rfl, rfl⟩, ?_⟩
    show Steps p.tables e below _ ((({ U with heap := s₂.heap, slotsUsed := s₂.slotsUsed } : State).setVm s₂.vm).setTop { g with pc := g.pc + len₂, stack := v.toList ++ g.stack })
    rw [← hs₂]
    exact hsteps
  · obtain ⟨e2, q2, q3, q4, q5, q6⟩ := id hsm
    have e3 : s₂ = ({ (U.calling g mk a).setFrames s₂.frames with heap := s₂.heap, slotsUsed := s₂.slotsUsed } : State).setVm s₂.vm := by
      have : s₂ = ({ s₂ with vm := (U.calling g mk a).vm } : State).setVm s₂.vm := rfl
      rw [e2] at this
      exact this
    have hf₂ : s₂.frames = .throwing q :: .java g :: U.frames.tail := hend
    have hW' : U.WarmedH s₂.vm := hW₂
    have hs₂ : s₂ = ((({ U with heap := s₂.heap, slotsUsed := s₂.slotsUsed } : State).setVm s₂.vm).setTop g).pushFrame (.throwing q) := by
      refine e3.trans ?_
      rw [hf₂, State.calling_eq h.top, State.setFrames_setFrames, State.pushFrame, State.frames_setTop _ hr', State.setTop_of_frames _ hr', State.setFrames_setFrames, hr]
      rfl
    have hsame : U.sameButNew ({ U with heap := s₂.heap, slotsUsed := s₂.slotsUsed } : State) L mc ms := by
      refine ⟨?_, q2, q3, q4, q5, q6⟩
      obtain ⟨t, ht, -⟩ := State.frames_cons hr
      show ({ U with heap := s₂.heap, slotsUsed := s₂.slotsUsed } : State) = { U.setFrames U.frames with heap := s₂.heap, slotsUsed := s₂.slotsUsed }
      rw [State.setFrames_self ht]
    subst hg
    refine Or.inr ⟨q, ⟨(({ U with heap := s₂.heap, slotsUsed := s₂.slotsUsed } : State).setVm s₂.vm), Ls ++ L, c0 + mc, s0 + ms⟩,
      ⟨X.admits, X.cas, X.clock, X.frames, X.room, X.hears, X.method, X.code, (X.here.setHeapUsed s₂.heap s₂.slotsUsed).setVm hW'.alike, X.tail, State.WarmedH.trans X.warmed hW', X.limits, X.bytes, X.same.trans (hsame.setVm s.vm)⟩,
      ⟨g, mk, s₂, L, E, ce, rfl, rfl, hx, hce, hcv, hcl, rfl, hL, rfl, rfl⟩, ?_⟩
    show Steps p.tables e below _ (((({ U with heap := s₂.heap, slotsUsed := s₂.slotsUsed } : State).setVm s₂.vm).setTop g).pushFrame (.throwing q))
    rw [← hs₂]
    exact hsteps
end Payer
section Calls
variable {p : Program} {l : Launch} {e : Env} {R : Room} {s : State} {m : MethodId} {args : Array Value} {below : List Frame} {meth : Method} {c : Code} {T : State} {locs : List Loc} {cells slots : Nat}
theorem vx_callV (X : Stand p l e R s m args below meth c T locs cells slots) (hexec : p.tables.exec = Jvm.exec) {own C : String} {index : Nat} {y : MethodName} {bytes : ByteArray} {maxL : Nat} {ret : Option FieldType}
    (hown : s.vm.findClass own = some m.cls) (hlink : (Cond.methodLink own index y).before args s = true) (hinst : (Cond.instanceMethod y).before args s = true) (hsel : (Cond.selects C y y).before args s = true)
    (hcode : (Cond.code y bytes maxL ret).before args s = true) (hy : y.cls ≠ "java/lang/invoke/MethodHandle" ∧ y.cls ≠ "java/lang/invoke/VarHandle")
    {W9 : Nat} {Pre : Pt → Array Value → Prop} {Post : Pt → Array Value → Option Value → Pt → Prop} {PostX : Pt → Array Value → Addr → Pt → Prop} (hK : vx_Back l R p e below s args y 3 W9 Pre Post PostX)
    {b : Addr} {cellB : Cell} (hcell : T.heap[b]? = some cellB) (hobj : cellB.vm.isStatics = false) (hcls : s.vm.findClass C = some cellB.cls)
    {g : JFrame} (hg : g.method = m) (hsize : g.locals.size = c.maxLocals) {argsL rest : List Value} (hlen : ∀ sig, parseMethodDescriptor y.desc = some sig → argsL.length = sig.parameters.length)
    (hstack : g.stack = argsL.reverse ++ .ref b :: rest) (hW : 2 * g.monitorRoom + (rest.map fun v => v.category).sum ≤ W9) (hdg : decode c.code g.pc = .ok (.invokevirtual index, 3))
    (hpre : ∀ vm₁, s.WarmedH vm₁ → Pre ⟨T.setVm vm₁, locs, cells, slots⟩ (Value.ref b :: argsL).toArray) :
    (∃ (v : Option Value) (vm₁ : Vm) (B : Pt), s.WarmedH vm₁ ∧ Stand p l e R s m args below meth c B.U B.locs B.cells B.slots ∧ Post ⟨T.setVm vm₁, locs, cells, slots⟩ (Value.ref b :: argsL).toArray v B ∧
      ∀ target, Steps p.tables e below (B.U.setTop { g with pc := g.pc + 3, stack := v.toList ++ rest }) target → Steps p.tables e below (T.setTop g) target) ∨
    (∃ (q : Addr) (vm₁ : Vm) (B : Pt), s.WarmedH vm₁ ∧ Stand p l e R s m args below meth c B.U B.locs B.cells B.slots ∧ PostX ⟨T.setVm vm₁, locs, cells, slots⟩ (Value.ref b :: argsL).toArray q B ∧
      Steps p.tables e below (T.setTop g) ((B.U.setTop { g with stack := rest }).pushFrame (.throwing q))) := by
  obtain ⟨mk, methM, hnamed, hmethM, hstM, habM⟩ := Cond.instanceMethod_spec hinst
  obtain ⟨methM', cM, hmethM', -, -, -, -, -, -, hsigM⟩ := Cond.code_spec hnamed hcode
  cases hmethM.symm.trans hmethM'
  obtain ⟨c2, r2, m2, q1, q2, q3, q4, kP, hkP, hkPi⟩ := Cond.selects_spec hsel
  cases hcls.symm.trans q1
  cases (State.methodFound?_of_named hnamed hy).symm.trans q2
  cases hnamed.symm.trans q3
  have hselP : selectMethod e.platform s.vm cellB.cls mk = .method mk := by rw [Launch.admits_selectMethod X.admits]; exact q4
  obtain ⟨vm₁, X₁, hstep₁⟩ := X.invokevirtual hexec hown hlink hnamed hmethM hstM hkP hkPi hy (a := b) (cell := cellB) hcell
    (fun z h => by rw [h] at hobj; cases hobj) hselP hmethM habM hkP hkPi (g := g) hg (argsL := argsL) (rest := rest) (hlen _ hsigM) hstack hdg
  rcases hK m meth c ⟨T.setVm vm₁, locs, cells, slots⟩ { g with stack := rest } (.invokevirtual index) mk (Value.ref b :: argsL).toArray X₁ hg hsize hdg hW (X₁.named hnamed) (hpre vm₁ X₁.warmed) with ⟨v, B, X', hpost, hsteps⟩ | ⟨q, B, X', hpost, hsteps⟩
  · exact Or.inl ⟨v, vm₁, B, X₁.warmed, X', hpost, fun target h => hstep₁ _ fun acts => by rw [doInvoke_state]; exact hsteps.trans h⟩
  · exact Or.inr ⟨q, vm₁, B, X₁.warmed, X', hpost, hstep₁ _ fun acts => by rw [doInvoke_state]; exact hsteps⟩
theorem vx_callS (X : Stand p l e R s m args below meth c T locs cells slots) (hexec : p.tables.exec = Jvm.exec) {own : String} {index : Nat} {y : MethodName} {bytes : ByteArray} {maxL : Nat} {ret : Option FieldType}
    (hown : s.vm.findClass own = some m.cls) (hlink : (Cond.methodLink own index y).before args s = true) (hstat : (Cond.static y).before args s = true) (hinit : (Cond.initialized y.cls).before args s = true)
    (hcode : (Cond.code y bytes maxL ret).before args s = true) (hy : y.cls ≠ "java/lang/invoke/MethodHandle" ∧ y.cls ≠ "java/lang/invoke/VarHandle")
    {W9 : Nat} {Pre : Pt → Array Value → Prop} {Post : Pt → Array Value → Option Value → Pt → Prop} {PostX : Pt → Array Value → Addr → Pt → Prop} (hK : vx_Back l R p e below s args y 3 W9 Pre Post PostX)
    {g : JFrame} (hg : g.method = m) (hsize : g.locals.size = c.maxLocals) {argsL rest : List Value} (hlen : ∀ sig, parseMethodDescriptor y.desc = some sig → argsL.length = sig.parameters.length)
    (hstack : g.stack = argsL.reverse ++ rest) (hW : 2 * g.monitorRoom + (rest.map fun v => v.category).sum ≤ W9) (hdg : decode c.code g.pc = .ok (.invokestatic index, 3))
    (hpre : ∀ vm₁, s.WarmedH vm₁ → Pre ⟨T.setVm vm₁, locs, cells, slots⟩ argsL.toArray) :
    (∃ (v : Option Value) (vm₁ : Vm) (B : Pt), s.WarmedH vm₁ ∧ Stand p l e R s m args below meth c B.U B.locs B.cells B.slots ∧ Post ⟨T.setVm vm₁, locs, cells, slots⟩ argsL.toArray v B ∧
      ∀ target, Steps p.tables e below (B.U.setTop { g with pc := g.pc + 3, stack := v.toList ++ rest }) target → Steps p.tables e below (T.setTop g) target) ∨
    (∃ (q : Addr) (vm₁ : Vm) (B : Pt), s.WarmedH vm₁ ∧ Stand p l e R s m args below meth c B.U B.locs B.cells B.slots ∧ PostX ⟨T.setVm vm₁, locs, cells, slots⟩ argsL.toArray q B ∧
      Steps p.tables e below (T.setTop g) ((B.U.setTop { g with stack := rest }).pushFrame (.throwing q))) := by
  obtain ⟨mk, hnamed⟩ := Cond.code_named hcode
  obtain ⟨methM, cM, hmethM, -, -, -, -, -, -, hsigM⟩ := Cond.code_spec hnamed hcode
  have hstatic : methM.isStatic = true := Cond.static_spec hnamed hmethM hstat
  obtain ⟨kP, hkP, -⟩ := className_of_methodNamed hnamed
  have hinitP : kP.init = .initialized := Cond.initialized_spec (findClass_of_methodNamed hnamed) hkP hinit
  obtain ⟨vm₁, X₁, hstep₁⟩ := X.invokestatic hexec hown hlink hnamed hmethM hstatic hkP hinitP hy (g := g) hg (argsL := argsL) (rest := rest) (hlen _ hsigM) hstack hdg
  rcases hK m meth c ⟨T.setVm vm₁, locs, cells, slots⟩ { g with stack := rest } (.invokestatic index) mk argsL.toArray X₁ hg hsize hdg hW (X₁.named hnamed) (hpre vm₁ X₁.warmed) with ⟨v, B, X', hpost, hsteps⟩ | ⟨q, B, X', hpost, hsteps⟩
  · exact Or.inl ⟨v, vm₁, B, X₁.warmed, X', hpost, fun target h => hstep₁ _ fun acts => by rw [doInvoke_state]; exact hsteps.trans h⟩
  · exact Or.inr ⟨q, vm₁, B, X₁.warmed, X', hpost, hstep₁ _ fun acts => by rw [doInvoke_state]; exact hsteps⟩
end Calls
theorem vx_cls {s : State} {T : State} {vm₁ : Vm} {E : String} {k : ClassId} (hW : s.WarmedH vm₁) (h : (T.setVm vm₁).vm.findClass E = some k) : s.vm.findClass E = some k := by
  have h1 : vm₁.findClass E = some k := h
  rw [hW.alike.findClass] at h1
  exact h1
/-- the method's frame g, with q thrown over it -/
def vx_W (p : Program) (l : Launch) (e : Env) (R : Room) (s : State) (m : MethodId) (args : Array Value) (below : List Frame) (meth : Method) (c : Code) (H : Heap) (locs : List Loc) (cells slots : Nat) (Q : State → Prop) (g : JFrame) (q : Addr) : Prop :=
  ∀ T : State, T.heap = H → Stand p l e R s m args below meth c T locs cells slots → ∃ t, Steps p.tables e below ((T.setTop g).pushFrame (.throwing q)) t ∧ Q t
def vx_Run (p : Program) (l : Launch) (e : Env) (R : Room) (s : State) (m : MethodId) (args : Array Value) (below : List Frame) (meth : Method) (c : Code) (H : Heap) (locs : List Loc) (cells slots mc ms : Nat) (g : JFrame) (rest : List Value) (Qa : State → Outcome → State → Prop) (XC : String → State → State → Prop) (free : Addr → Prop) : Prop :=
  ∀ T : State, T.heap = H → Stand p l e R s m args below meth c T locs cells slots →
    (∃ (v : Option Value) (st₀ t T' : State) (L : List Loc), st₀.heap = H ∧ Stand p l e R s m args below meth c T' (locs ++ L) (cells + mc) (slots + ms) ∧ (∀ q ∈ L, free q.base) ∧ T'.heap = t.heap ∧ T'.vm = t.vm ∧ Qa st₀ (.returned v) t ∧
      Goes p e below T g T' { g with pc := g.pc + 3, stack := v.toList ++ rest }) ∨
    (∃ (q : Addr) (st₀ t T' : State) (L : List Loc) (E : String) (ce : Cell), st₀.heap = H ∧ Stand p l e R s m args below meth c T' (locs ++ L) (cells + mc) (slots + ms) ∧ (∀ z ∈ L, free z.base) ∧ T'.heap = t.heap ∧ T'.vm = t.vm ∧ XC E st₀ t ∧ t.heap[q]? = some ce ∧ ce.vm = .none ∧ s.vm.findClass E = some ce.cls ∧
      Steps p.tables e below (T.setTop g) ((T'.setTop { g with stack := rest }).pushFrame (.throwing q)))
def vx_X {S : Type} (px : S → Prop) (B : String → S → State → Prop) (A : Nat → Prop) : String → State → State → Prop := fun E st t => ∃ u : S, px u ∧ B E u t ∧ va_F A st t
section Runs
variable {p : Program} {l : Launch} {e : Env} {R : Room} {s : State} {m : MethodId} {args : Array Value} {below : List Frame} {meth : Method} {c : Code} {H : Heap} {locs : List Loc} {cells slots : Nat}
variable {y : MethodName} {bytes cc : ByteArray} {maxL nL mc ms n index : Nat} {ret : Option FieldType} {ws : List Cond} {rm : Room} {Pc : Array Value → State → Prop} {Qc : Array Value → State → Outcome → State → Prop} {XC : String → State → State → Prop} {free : Addr → Prop} {Ts : List Cond} {own C : String} {b : Addr} {As rest : List Value} {g : JFrame}
theorem vx_callBack (cb : CallB R s args own index y bytes maxL ret ws rm mc ms n) (hM : vx_Met l y ws rm Pc Qc XC mc ms free) (hbl : FrameBlind Pc) : vx_Back l R p e below s args y 3 8 (PreOf R mc ms Pc) (PostOf Qc mc ms free) (vx_Post XC mc ms free) := by
  obtain ⟨hrc, hrs, hfr, hlo, hws, hcw, -, hini, -⟩ := cb
  exact vx_back (bytes := bytes) (maxL := maxL) (ret := ret) hM hbl hrc hrs hfr hlo hws hcw (fun a' U hW => word_at hW (Or.inl (by first | rfl | simp [Cond.onTables, Cond.keeps, Cond.steady])) hini)
theorem vx_runV (S : CallFix p m c cc nL s args Ts own) (hM : vx_Met l y ws rm Pc Qc XC mc ms free) (cw : CallW R s args own C index y bytes maxL ret ws rm mc ms n) (hp : PreV s H C b Pc As)
    (hg : g.method = m) (hn : As.length = n) (hsize : g.locals.size = nL) (hstack : g.stack = As.reverse ++ .ref b :: rest) (hW : 2 * g.monitorRoom + (rest.map fun v => v.category).sum ≤ 8) (hdg : decode cc g.pc = .ok (.invokevirtual index, 3)) (hf : cells + mc ≤ R.cells ∧ slots + ms ≤ R.slots) :
    vx_Run p l e R s m args below meth c H locs cells slots mc ms g rest (Qc (Value.ref b :: As).toArray) XC free := by
  have hK : vx_Back l R p e below s args y 3 8 (PreOf R mc ms Pc) (PostOf Qc mc ms free) (vx_Post XC mc ms free) := vx_callBack cw.1 hM hp.1
  obtain ⟨⟨-, -, -, -, -, -, hcode, -, hy, hlen, hl⟩, hin, hse⟩ := cw
  obtain ⟨hx, hb, hml, ho, -⟩ := S
  obtain ⟨-, ⟨cellB, hcB, hoB, hclB⟩, hPc⟩ := hp
  intro T hT X
  rcases vx_callV X hx (C := C) (bytes := bytes) (maxL := maxL) (ret := ret) ho hl hin hse hcode hy hK (by rw [hT]; exact hcB) hoB hclB hg (hsize.trans hml.symm) (argsL := As) (rest := rest) (fun sig h => hn.trans (hlen sig h)) hstack hW (by rw [hb]; exact hdg)
    (fun vm₁ hW₁ => ⟨hf.1, hf.2, hPc (T.setVm vm₁) hT hW₁⟩) with ⟨v, vm₁, ⟨U', l2, c2, s2⟩, hW₁, X', ⟨g', mk, t, L, e1, e2, hq, h1, hL, h2, h3⟩, st⟩ | ⟨q, vm₁, ⟨U', l2, c2, s2⟩, hW₁, X', ⟨g', mk, t, L, E, ce, e1, e2, hq, hce, hcv, hcl, h1, hL, h2, h3⟩, st⟩
  · dsimp only [Pt.U, Pt.locs, Pt.cells, Pt.slots] at X' e1 e2 h1 h2 h3 st
    subst h1; subst h2; subst h3
    exact Or.inl ⟨v, (T.setVm vm₁).calling g' mk (Value.ref b :: As).toArray, t, U', L, hT, X', hL, e1, e2, hq, st⟩
  · dsimp only [Pt.U, Pt.locs, Pt.cells, Pt.slots] at X' e1 e2 h1 h2 h3 st hcl
    subst h1; subst h2; subst h3
    exact Or.inr ⟨q, (T.setVm vm₁).calling g' mk (Value.ref b :: As).toArray, t, U', L, E, ce, hT, X', hL, e1, e2, hq, hce, hcv, vx_cls hW₁ hcl, st⟩
theorem vx_runS (S : CallFix p m c cc nL s args Ts own) (hM : vx_Met l y ws rm Pc Qc XC mc ms free) (cw : CallB R s args own index y bytes maxL ret ws rm mc ms n ∧ (Cond.static y).before args s = true) (hp : PreS s H Pc As)
    (hg : g.method = m) (hn : As.length = n) (hsize : g.locals.size = nL) (hstack : g.stack = As.reverse ++ rest) (hW : 2 * g.monitorRoom + (rest.map fun v => v.category).sum ≤ 8) (hdg : decode cc g.pc = .ok (.invokestatic index, 3)) (hf : cells + mc ≤ R.cells ∧ slots + ms ≤ R.slots) :
    vx_Run p l e R s m args below meth c H locs cells slots mc ms g rest (Qc As.toArray) XC free := by
  have hK : vx_Back l R p e below s args y 3 8 (PreOf R mc ms Pc) (PostOf Qc mc ms free) (vx_Post XC mc ms free) := vx_callBack cw.1 hM hp.1
  obtain ⟨⟨-, -, -, -, -, -, hcode, hini, hy, hlen, hl⟩, hstt⟩ := cw
  obtain ⟨hx, hb, hml, ho, -⟩ := S
  intro T hT X
  rcases vx_callS X hx (bytes := bytes) (maxL := maxL) (ret := ret) ho hl hstt hini hcode hy hK hg (hsize.trans hml.symm) (argsL := As) (rest := rest) (fun sig h => hn.trans (hlen sig h)) hstack hW (by rw [hb]; exact hdg)
    (fun vm₁ hW₁ => ⟨hf.1, hf.2, hp.2 (T.setVm vm₁) hT hW₁⟩) with ⟨v, vm₁, ⟨U', l2, c2, s2⟩, hW₁, X', ⟨g', mk, t, L, e1, e2, hq, h1, hL, h2, h3⟩, st⟩ | ⟨q, vm₁, ⟨U', l2, c2, s2⟩, hW₁, X', ⟨g', mk, t, L, E, ce, e1, e2, hq, hce, hcv, hcl, h1, hL, h2, h3⟩, st⟩
  · dsimp only [Pt.U, Pt.locs, Pt.cells, Pt.slots] at X' e1 e2 h1 h2 h3 st
    subst h1; subst h2; subst h3
    exact Or.inl ⟨v, (T.setVm vm₁).calling g' mk As.toArray, t, U', L, hT, X', hL, e1, e2, hq, st⟩
  · dsimp only [Pt.U, Pt.locs, Pt.cells, Pt.slots] at X' e1 e2 h1 h2 h3 st hcl
    subst h1; subst h2; subst h3
    exact Or.inr ⟨q, (T.setVm vm₁).calling g' mk As.toArray, t, U', L, E, ce, hT, X', hL, e1, e2, hq, hce, hcv, vx_cls hW₁ hcl, st⟩
end Runs
section Rows
variable {p : Program} {l : Launch} {e : Env} {R : Room} {s : State} {m : MethodId} {args : Array Value} {below : List Frame} {meth : Method} {c : Code} {H : Heap} {locs : List Loc} {cells slots : Nat} {Q : State → Prop}
variable {mc ms : Nat} {free : Addr → Prop} {A0 A1 : Nat → Prop} {H0 : Heap} {a : Array Value} {pc : Nat} {ls : Array Slot} {st0 rest : List Value}
theorem vx_keep {st₀ t T' : State} {L : List Loc} (h0 : st₀.heap = H) (e1 : T'.heap = t.heap) (hS : va_S A0 H0 H locs) (hA : ∀ q, q < H.size → A1 q → A0 q) (hf : ∀ q, free q → A0 q) (hL : ∀ q ∈ L, free q.base) (hF : va_F A1 st₀ t) :
    H.size ≤ T'.heap.size ∧ (∀ q : Nat, q < H.size → ¬ A1 q → T'.heap[q]? = H[q]?) ∧ va_S A0 H0 T'.heap (locs ++ L) := by
  obtain ⟨hz, hk⟩ := hF
  rw [h0] at hz hk
  exact ⟨by rw [e1]; exact hz, fun q h1 h2 => by rw [e1]; exact hk q h1 h2,
    ⟨Nat.le_trans hS.1 (by rw [e1]; exact hz), fun q h1 h2 => by rw [e1, hk q (Nat.lt_of_lt_of_le h1 hS.1) (fun z => h2 (hA q (Nat.lt_of_lt_of_le h1 hS.1) z))]; exact hS.2.1 q h1 h2, fun q hq => by
      rcases List.mem_append.mp hq with h | h
      · exact hS.2.2 q h
      · exact hf _ (hL q h)⟩⟩
theorem vx_calli {S SX : Type} {post : Int32 → S → Prop} {px : SX → Prop} {B : S → State → Prop} {BX : String → SX → State → Prop} {AX : Nat → Prop} (hr : vx_Run p l e R s m args below meth c H locs cells slots mc ms (F0 m pc ls st0) rest (va_Qi post B A1 a) (vx_X px BX AX) free) (hS : va_S A0 H0 H locs) (hA : ∀ q, q < H.size → A1 q → A0 q) (hf : ∀ q, free q → A0 q) (hAX : ∀ q, q < H.size → AX q → A0 q)
    (kx : ∀ (E : String) (ce : Cell) (q9 : Addr) (u : SX) (t : State) (H1 : Heap) (locs1 : List Loc), t.heap = H1 → s.vm.Alike t.vm → px u → BX E u t → H.size ≤ H1.size → (∀ q : Nat, q < H.size → ¬ AX q → H1[q]? = H[q]?) → va_S A0 H0 H1 locs1 → H1[q9]? = some ce → ce.vm = .none → s.vm.findClass E = some ce.cls → vx_W p l e R s m args below meth c H1 locs1 (cells + mc) (slots + ms) Q (F0 m pc ls rest) q9)
    (kk : ∀ (r : Int32) (u : S) (t : State) (H1 : Heap) (locs1 : List Loc), t.heap = H1 → s.vm.Alike t.vm → post r u → B u t → H.size ≤ H1.size → (∀ q : Nat, q < H.size → ¬ A1 q → H1[q]? = H[q]?) → va_S A0 H0 H1 locs1 → W p l e R s m args below meth c H1 locs1 (cells + mc) (slots + ms) Q (F0 m (pc + 3) ls (.int r :: rest))) : W p l e R s m args below meth c H locs cells slots Q (F0 m pc ls st0) := by
  intro T hT X
  rcases hr T hT X with ⟨v, st₀, t, T', L, h0, X', hL, e1, e2, ⟨⟨r, u, hv, hp, hb⟩, hF⟩, st⟩ | ⟨q, st₀, t, T', L, E, ce, h0, X', hL, e1, e2, ⟨u, hp, hb, hF⟩, hce, hcv, hcl, st⟩
  · cases hv
    obtain ⟨k1, k2, k3⟩ := vx_keep h0 e1 hS hA hf hL hF
    obtain ⟨t2, a1, b1⟩ := kk r u t T'.heap (locs ++ L) e1.symm (by rw [← e2]; exact X'.warmed.alike) hp hb k1 k2 k3 T' rfl X'
    exact ⟨t2, st t2 a1, b1⟩
  · obtain ⟨k1, k2, k3⟩ := vx_keep h0 e1 hS hAX hf hL hF
    obtain ⟨t2, a1, b1⟩ := kx E ce q u t T'.heap (locs ++ L) e1.symm (by rw [← e2]; exact X'.warmed.alike) hp hb k1 k2 k3 (by rw [e1]; exact hce) hcv hcl T' rfl X'
    exact ⟨t2, st.trans a1, b1⟩
theorem vx_calll {S SX : Type} {post : Int64 → S → Prop} {px : SX → Prop} {B : S → State → Prop} {BX : String → SX → State → Prop} {AX : Nat → Prop} (hr : vx_Run p l e R s m args below meth c H locs cells slots mc ms (F0 m pc ls st0) rest (va_Ql post B A1 a) (vx_X px BX AX) free) (hS : va_S A0 H0 H locs) (hA : ∀ q, q < H.size → A1 q → A0 q) (hf : ∀ q, free q → A0 q) (hAX : ∀ q, q < H.size → AX q → A0 q)
    (kx : ∀ (E : String) (ce : Cell) (q9 : Addr) (u : SX) (t : State) (H1 : Heap) (locs1 : List Loc), t.heap = H1 → s.vm.Alike t.vm → px u → BX E u t → H.size ≤ H1.size → (∀ q : Nat, q < H.size → ¬ AX q → H1[q]? = H[q]?) → va_S A0 H0 H1 locs1 → H1[q9]? = some ce → ce.vm = .none → s.vm.findClass E = some ce.cls → vx_W p l e R s m args below meth c H1 locs1 (cells + mc) (slots + ms) Q (F0 m pc ls rest) q9)
    (kk : ∀ (r : Int64) (u : S) (t : State) (H1 : Heap) (locs1 : List Loc), t.heap = H1 → s.vm.Alike t.vm → post r u → B u t → H.size ≤ H1.size → (∀ q : Nat, q < H.size → ¬ A1 q → H1[q]? = H[q]?) → va_S A0 H0 H1 locs1 → W p l e R s m args below meth c H1 locs1 (cells + mc) (slots + ms) Q (F0 m (pc + 3) ls (.long r :: rest))) : W p l e R s m args below meth c H locs cells slots Q (F0 m pc ls st0) := by
  intro T hT X
  rcases hr T hT X with ⟨v, st₀, t, T', L, h0, X', hL, e1, e2, ⟨⟨r, u, hv, hp, hb⟩, hF⟩, st⟩ | ⟨q, st₀, t, T', L, E, ce, h0, X', hL, e1, e2, ⟨u, hp, hb, hF⟩, hce, hcv, hcl, st⟩
  · cases hv
    obtain ⟨k1, k2, k3⟩ := vx_keep h0 e1 hS hA hf hL hF
    obtain ⟨t2, a1, b1⟩ := kk r u t T'.heap (locs ++ L) e1.symm (by rw [← e2]; exact X'.warmed.alike) hp hb k1 k2 k3 T' rfl X'
    exact ⟨t2, st t2 a1, b1⟩
  · obtain ⟨k1, k2, k3⟩ := vx_keep h0 e1 hS hAX hf hL hF
    obtain ⟨t2, a1, b1⟩ := kx E ce q u t T'.heap (locs ++ L) e1.symm (by rw [← e2]; exact X'.warmed.alike) hp hb k1 k2 k3 (by rw [e1]; exact hce) hcv hcl T' rfl X'
    exact ⟨t2, st.trans a1, b1⟩
theorem vx_callf {S SX : Type} {post : UInt32 → S → Prop} {px : SX → Prop} {B : S → State → Prop} {BX : String → SX → State → Prop} {AX : Nat → Prop} (hr : vx_Run p l e R s m args below meth c H locs cells slots mc ms (F0 m pc ls st0) rest (va_Qf post B A1 a) (vx_X px BX AX) free) (hS : va_S A0 H0 H locs) (hA : ∀ q, q < H.size → A1 q → A0 q) (hf : ∀ q, free q → A0 q) (hAX : ∀ q, q < H.size → AX q → A0 q)
    (kx : ∀ (E : String) (ce : Cell) (q9 : Addr) (u : SX) (t : State) (H1 : Heap) (locs1 : List Loc), t.heap = H1 → s.vm.Alike t.vm → px u → BX E u t → H.size ≤ H1.size → (∀ q : Nat, q < H.size → ¬ AX q → H1[q]? = H[q]?) → va_S A0 H0 H1 locs1 → H1[q9]? = some ce → ce.vm = .none → s.vm.findClass E = some ce.cls → vx_W p l e R s m args below meth c H1 locs1 (cells + mc) (slots + ms) Q (F0 m pc ls rest) q9)
    (kk : ∀ (r : UInt32) (u : S) (t : State) (H1 : Heap) (locs1 : List Loc), t.heap = H1 → s.vm.Alike t.vm → post r u → B u t → H.size ≤ H1.size → (∀ q : Nat, q < H.size → ¬ A1 q → H1[q]? = H[q]?) → va_S A0 H0 H1 locs1 → W p l e R s m args below meth c H1 locs1 (cells + mc) (slots + ms) Q (F0 m (pc + 3) ls (.float r :: rest))) : W p l e R s m args below meth c H locs cells slots Q (F0 m pc ls st0) := by
  intro T hT X
  rcases hr T hT X with ⟨v, st₀, t, T', L, h0, X', hL, e1, e2, ⟨⟨r, u, hv, hp, hb⟩, hF⟩, st⟩ | ⟨q, st₀, t, T', L, E, ce, h0, X', hL, e1, e2, ⟨u, hp, hb, hF⟩, hce, hcv, hcl, st⟩
  · cases hv
    obtain ⟨k1, k2, k3⟩ := vx_keep h0 e1 hS hA hf hL hF
    obtain ⟨t2, a1, b1⟩ := kk r u t T'.heap (locs ++ L) e1.symm (by rw [← e2]; exact X'.warmed.alike) hp hb k1 k2 k3 T' rfl X'
    exact ⟨t2, st t2 a1, b1⟩
  · obtain ⟨k1, k2, k3⟩ := vx_keep h0 e1 hS hAX hf hL hF
    obtain ⟨t2, a1, b1⟩ := kx E ce q u t T'.heap (locs ++ L) e1.symm (by rw [← e2]; exact X'.warmed.alike) hp hb k1 k2 k3 (by rw [e1]; exact hce) hcv hcl T' rfl X'
    exact ⟨t2, st.trans a1, b1⟩
theorem vx_calld {S SX : Type} {post : UInt64 → S → Prop} {px : SX → Prop} {B : S → State → Prop} {BX : String → SX → State → Prop} {AX : Nat → Prop} (hr : vx_Run p l e R s m args below meth c H locs cells slots mc ms (F0 m pc ls st0) rest (va_Qd post B A1 a) (vx_X px BX AX) free) (hS : va_S A0 H0 H locs) (hA : ∀ q, q < H.size → A1 q → A0 q) (hf : ∀ q, free q → A0 q) (hAX : ∀ q, q < H.size → AX q → A0 q)
    (kx : ∀ (E : String) (ce : Cell) (q9 : Addr) (u : SX) (t : State) (H1 : Heap) (locs1 : List Loc), t.heap = H1 → s.vm.Alike t.vm → px u → BX E u t → H.size ≤ H1.size → (∀ q : Nat, q < H.size → ¬ AX q → H1[q]? = H[q]?) → va_S A0 H0 H1 locs1 → H1[q9]? = some ce → ce.vm = .none → s.vm.findClass E = some ce.cls → vx_W p l e R s m args below meth c H1 locs1 (cells + mc) (slots + ms) Q (F0 m pc ls rest) q9)
    (kk : ∀ (r : UInt64) (u : S) (t : State) (H1 : Heap) (locs1 : List Loc), t.heap = H1 → s.vm.Alike t.vm → post r u → B u t → H.size ≤ H1.size → (∀ q : Nat, q < H.size → ¬ A1 q → H1[q]? = H[q]?) → va_S A0 H0 H1 locs1 → W p l e R s m args below meth c H1 locs1 (cells + mc) (slots + ms) Q (F0 m (pc + 3) ls (.double r :: rest))) : W p l e R s m args below meth c H locs cells slots Q (F0 m pc ls st0) := by
  intro T hT X
  rcases hr T hT X with ⟨v, st₀, t, T', L, h0, X', hL, e1, e2, ⟨⟨r, u, hv, hp, hb⟩, hF⟩, st⟩ | ⟨q, st₀, t, T', L, E, ce, h0, X', hL, e1, e2, ⟨u, hp, hb, hF⟩, hce, hcv, hcl, st⟩
  · cases hv
    obtain ⟨k1, k2, k3⟩ := vx_keep h0 e1 hS hA hf hL hF
    obtain ⟨t2, a1, b1⟩ := kk r u t T'.heap (locs ++ L) e1.symm (by rw [← e2]; exact X'.warmed.alike) hp hb k1 k2 k3 T' rfl X'
    exact ⟨t2, st t2 a1, b1⟩
  · obtain ⟨k1, k2, k3⟩ := vx_keep h0 e1 hS hAX hf hL hF
    obtain ⟨t2, a1, b1⟩ := kx E ce q u t T'.heap (locs ++ L) e1.symm (by rw [← e2]; exact X'.warmed.alike) hp hb k1 k2 k3 (by rw [e1]; exact hce) hcv hcl T' rfl X'
    exact ⟨t2, st.trans a1, b1⟩
theorem vx_callv {S SX : Type} {post : S → Prop} {px : SX → Prop} {B : S → State → Prop} {BX : String → SX → State → Prop} {AX : Nat → Prop} (hr : vx_Run p l e R s m args below meth c H locs cells slots mc ms (F0 m pc ls st0) rest (va_Qv post B A1 a) (vx_X px BX AX) free) (hS : va_S A0 H0 H locs) (hA : ∀ q, q < H.size → A1 q → A0 q) (hf : ∀ q, free q → A0 q) (hAX : ∀ q, q < H.size → AX q → A0 q)
    (kx : ∀ (E : String) (ce : Cell) (q9 : Addr) (u : SX) (t : State) (H1 : Heap) (locs1 : List Loc), t.heap = H1 → s.vm.Alike t.vm → px u → BX E u t → H.size ≤ H1.size → (∀ q : Nat, q < H.size → ¬ AX q → H1[q]? = H[q]?) → va_S A0 H0 H1 locs1 → H1[q9]? = some ce → ce.vm = .none → s.vm.findClass E = some ce.cls → vx_W p l e R s m args below meth c H1 locs1 (cells + mc) (slots + ms) Q (F0 m pc ls rest) q9)
    (kk : ∀ (u : S) (t : State) (H1 : Heap) (locs1 : List Loc), t.heap = H1 → s.vm.Alike t.vm → post u → B u t → H.size ≤ H1.size → (∀ q : Nat, q < H.size → ¬ A1 q → H1[q]? = H[q]?) → va_S A0 H0 H1 locs1 → W p l e R s m args below meth c H1 locs1 (cells + mc) (slots + ms) Q (F0 m (pc + 3) ls (rest))) : W p l e R s m args below meth c H locs cells slots Q (F0 m pc ls st0) := by
  intro T hT X
  rcases hr T hT X with ⟨v, st₀, t, T', L, h0, X', hL, e1, e2, ⟨⟨u, hv, hp, hb⟩, hF⟩, st⟩ | ⟨q, st₀, t, T', L, E, ce, h0, X', hL, e1, e2, ⟨u, hp, hb, hF⟩, hce, hcv, hcl, st⟩
  · cases hv
    obtain ⟨k1, k2, k3⟩ := vx_keep h0 e1 hS hA hf hL hF
    obtain ⟨t2, a1, b1⟩ := kk u t T'.heap (locs ++ L) e1.symm (by rw [← e2]; exact X'.warmed.alike) hp hb k1 k2 k3 T' rfl X'
    exact ⟨t2, st t2 a1, b1⟩
  · obtain ⟨k1, k2, k3⟩ := vx_keep h0 e1 hS hAX hf hL hF
    obtain ⟨t2, a1, b1⟩ := kx E ce q u t T'.heap (locs ++ L) e1.symm (by rw [← e2]; exact X'.warmed.alike) hp hb k1 k2 k3 (by rw [e1]; exact hce) hcv hcl T' rfl X'
    exact ⟨t2, st.trans a1, b1⟩
/-- caught by the row x of this method's table; the rows ahead don't take it -/
theorem vx_catch {own name : String} {E : String} {ce : Cell} {q : Addr} (hown : s.vm.findClass own = some m.cls) (pre : List ExceptionTableEntry) (x : ExceptionTableEntry) (suf : List ExceptionTableEntry) (hsplit : c.exceptionTable.toList = pre ++ x :: suf)
    (hpass : ∀ z ∈ pre, covers z pc = false ∨ (z.catchType ≠ 0 ∧ ∃ nm : String, (Cond.classLink own z.catchType nm).before args s = true ∧ va_Nc E nm s)) (hx : covers x pc = true) (h0 : x.catchType ≠ 0)
    (hlink : (Cond.classLink own x.catchType name).before args s = true) (hcast : (Cond.castable E name).before args s = true) (hcell : H[q]? = some ce) (hv : ce.vm = .none) (hcl : s.vm.findClass E = some ce.cls)
    (kk : W p l e R s m args below meth c H locs cells slots Q (F0 m x.handlerPc ls [.ref q])) : vx_W p l e R s m args below meth c H locs cells slots Q (F0 m pc ls rest) q := by
  intro T hT X
  have hpl : e.platform.magicAccessors = ({} : Platform).magicAccessors := by rw [X.admits.platform]
  obtain ⟨c3, c4, hc3, hc4, hasg⟩ := Cond.castable_spec hcast
  cases Option.some.inj (hc3.symm.trans hcl)
  obtain ⟨c5, hc5, hcl5⟩ := Cond.classLink_spec hown hlink e.platform hpl
  cases Option.some.inj (hc4.symm.trans hc5)
  obtain ⟨vm', X', st⟩ := X.thenCaughtThrough q (g := F0 m pc ls rest) rfl (Steps.refl _) (by rw [hT]; exact hcell) (by rw [hv]; rfl) (by obtain ⟨k9, h9, -⟩ := Vm.findClass_spec hcl; exact ⟨k9, h9⟩) pre x suf hsplit
    (fun z hz => by
      rcases hpass z hz with h | ⟨hz0, nm, hl1, hn1⟩
      · exact Or.inl h
      · obtain ⟨c6, hc6, hcl6⟩ := Cond.classLink_spec hown hl1 e.platform hpl
        obtain ⟨a8, b8, h1, h2, h3⟩ := hn1
        cases Option.some.inj (h1.symm.trans hcl)
        cases Option.some.inj (h2.symm.trans hc6)
        exact Or.inr ⟨hz0, _, hcl6, h3⟩) hx (Or.inr ⟨h0, c4, hcl5, hasg⟩)
  obtain ⟨t, a1, b1⟩ := kk (T.setVm vm') hT X'
  exact ⟨t, st.trans a1, b1⟩
end Rows
section Ends
variable {p : Program} {l : Launch} {e : Env} {R : Room} {s : State} {m : MethodId} {args : Array Value} {below : List Frame} {meth : Method} {c : Code} {H : Heap} {locs : List Loc} {cells slots : Nat} {Q : State → Prop}
variable {mc ms : Nat} {free : Addr → Prop} {A0 A1 : Nat → Prop} {H0 : Heap} {a : Array Value} {ls : Array Slot} {st0 rest : List Value}
variable {Qc : Array Value → State → Outcome → State → Prop} {XC : String → State → State → Prop}
/-- what a body that may throw owes at its end -/
def vx_MQ (below : List Frame) (Qc : Array Value → State → Outcome → State → Prop) (XC : String → State → State → Prop) (a : Array Value) (s : State) (mc ms : Nat) (free : Addr → Prop) : State → Prop := fun t =>
  ∃ o, t.status = .running ∧ Ended t below o ∧ vx_Q Qc XC mc ms free a s o t
theorem vx_ret {g : JFrame} {mc ms : Nat} (k : W p l e R s m args below meth c H locs cells slots (MQ below Qc args s mc ms free) g) : W p l e R s m args below meth c H locs cells slots (vx_MQ below Qc XC args s mc ms free) g := by
  intro T hT X
  obtain ⟨t, a1, o, b1, b2, b3, b4⟩ := k T hT X
  exact ⟨t, a1, o, b1, b2, Or.inl ⟨b3, b4⟩⟩
/-- not caught here: it goes on to the caller -/
theorem vx_widen {g : JFrame} {q : Addr} {k n : Nat} (h1 : cells ≤ k) (h2 : slots ≤ n) (kk : vx_W p l e R s m args below meth c H locs k n Q g q) : vx_W p l e R s m args below meth c H locs cells slots Q g q := fun T hT X => kk T hT (stand_widen X h1 h2)
theorem vx_out {pc : Nat} {E : String} {ce : Cell} {q : Addr} {mc ms : Nat} (hout : ∀ x ∈ c.exceptionTable.toList, covers x pc = false) (hlocks : meth.locks = false) (hcell : H[q]? = some ce) (hv : ce.vm = .none) (hcl : s.vm.findClass E = some ce.cls)
    (hx : ∀ t : State, t.heap = H → s.vm.Alike t.vm → XC E s t) (hf : ∀ z ∈ locs, free z.base) (hc : cells ≤ mc) (hs : slots ≤ ms) :
    vx_W p l e R s m args below meth c H locs cells slots (vx_MQ below Qc XC args s mc ms free) (F0 m pc ls rest) q := by
  intro T hT X
  obtain ⟨st1, hrun, hend, hW, hsm⟩ := X.leaveThrown q (g := F0 m pc ls rest) rfl rfl rfl hout hlocks
  have hcell9 : (T.setFrames (.throwing q :: below)).heap[q]? = some ce := by
    show T.heap[q]? = some ce
    rw [hT]; exact hcell
  exact ⟨_, st1, .threw q, hrun, hend, Or.inr ⟨q, rfl, E, ce, locs, hx _ hT hW.alike, hcell9, hv, hcl, hW, hsm.mono hc hs, hf⟩⟩
theorem vx_frame {U : State} {k n : Nat} (h : s.sameButNew ({ U with vm := s.vm } : State) locs k n) : s.heap.size ≤ U.heap.size ∧ ∀ q : Nat, q < s.heap.size → (∀ z ∈ locs, z.base ≠ q) → U.heap[q]? = s.heap[q]? := by
  obtain ⟨-, h2, -, -, -, h6⟩ := h
  refine ⟨h2, fun q hq hz => ?_⟩
  obtain ⟨c9, e1, e2, e3, e4⟩ := h6 q _ (Array.getElem?_eq_getElem hq)
  have hs : c9.slots = (s.heap[q]).slots := Array.ext_getElem? fun i => e4 i fun hm => hz _ hm rfl
  have h9 : c9 = s.heap[q] := by
    rw [hs] at e2
    exact e2
  have e5 : U.heap[q]? = some c9 := e1
  rw [e5, h9, Array.getElem?_eq_getElem hq]
/-- the words of a throw but the four that speak of the heap -/
def vx_no (w : Cond) : Bool := decide (w ≠ .isRef (.static Bundle.tN "UNASSIGNED_STACK" Bundle.steD)) && decide (w ≠ .isRef (.static Bundle.tN "SUPPRESSED_SENTINEL" Bundle.listD)) && decide (w ≠ .laysStatic Bundle.tN "UNASSIGNED_STACK" Bundle.steD) && decide (w ≠ .laysStatic Bundle.tN "SUPPRESSED_SENTINEL" Bundle.listD)
def vx_at0 (own : String) (ic : Nat) (X : String) (names : List String) : List Cond := (Bundle.ownAtoms0 own ic X names).filter vx_no
def vx_atS (own : String) (ic : Nat) (X : String) (names : List String) : List Cond := (Bundle.ownAtoms own ic X names).filter vx_no
/-- a word that the tables alone decide, or a good one -/
def vx_ot (w : Cond) : Bool := w.onTables || goodWord w
theorem vx_ot_at {args a' : Array Value} {s U : State} {w : Cond} (hW : s.WarmedH U.vm) (hvm : s.vm = U.vm) (hg : vx_ot w = true) (h : w.before args s = true) : w.before a' U = true := by
  simp only [vx_ot, Bool.or_eq_true] at hg
  rcases hg with hg | hg
  · exact va_tabs hg hvm h
  · exact word_at hW (good_of_word hg) h
/-- a list's words: the good ones out of the method's own list, the others by premises of their own -/
theorem vx_hat {args : Array Value} {s : State} {L B : List Cond} (h1 : ∀ w ∈ L.filter goodWord, w.before args s = true) (h2 : ∀ w ∈ L.filter (fun w => !goodWord w), w ∈ B) (h3 : ∀ w ∈ B, w.before args s = true) : ∀ w ∈ L, w.before args s = true := by
  intro w hw
  by_cases g : goodWord w = true
  · exact h1 w (List.mem_filter.mpr ⟨hw, g⟩)
  · refine h3 w (h2 w (List.mem_filter.mpr ⟨hw, ?_⟩))
    show (!goodWord w) = true
    cases hgw : goodWord w
    · rfl
    · exact absurd hgw g
theorem vx_c {args : Array Value} {s : State} {w : Cond} {B : List Cond} (h : w.before args s = true) (t : ∀ w ∈ B, w.before args s = true) : ∀ w' ∈ w :: B, w'.before args s = true := fun w' h' => (List.mem_cons.mp h').elim (fun e => by rw [e]; exact h) (t w')
theorem vx_n {args : Array Value} {s : State} : ∀ w ∈ ([] : List Cond), w.before args s = true := fun _ h => nomatch h
theorem vx_own {args : Array Value} {s : State} {L : List Cond} (h1 : ∀ w ∈ L.filter vx_no, w.before args s = true)
    (hU : (Cond.isRef (.static Bundle.tN "UNASSIGNED_STACK" Bundle.steD)).before args s = true) (hN : (Cond.isRef (.static Bundle.tN "SUPPRESSED_SENTINEL" Bundle.listD)).before args s = true)
    (lU : (Cond.laysStatic Bundle.tN "UNASSIGNED_STACK" Bundle.steD).before args s = true) (lN : (Cond.laysStatic Bundle.tN "SUPPRESSED_SENTINEL" Bundle.listD).before args s = true) : ∀ w ∈ L, w.before args s = true := by
  intro w hw
  by_cases e1 : w = .isRef (.static Bundle.tN "UNASSIGNED_STACK" Bundle.steD)
  · rw [e1]; exact hU
  · by_cases e2 : w = .isRef (.static Bundle.tN "SUPPRESSED_SENTINEL" Bundle.listD)
    · rw [e2]; exact hN
    · by_cases e3 : w = .laysStatic Bundle.tN "UNASSIGNED_STACK" Bundle.steD
      · rw [e3]; exact lU
      · by_cases e4 : w = .laysStatic Bundle.tN "SUPPRESSED_SENTINEL" Bundle.listD
        · rw [e4]; exact lN
        · exact h1 w (List.mem_filter.mpr ⟨hw, by unfold vx_no; rw [decide_eq_true e1, decide_eq_true e2, decide_eq_true e3, decide_eq_true e4]; rfl⟩)
/-- where a static field lies, its class's statics cell in H -/
def vx_L (C n d : String) (A : Nat → Prop) (U : State) (H : Heap) : Prop := ∃ (c : ClassId) (k : Class) (i : Nat) (f : Field) (a : Nat) (cell : Cell), U.vm.findClass C = some c ∧ U.fieldFound? C n d = some (c, k, i, f) ∧ f.isStatic = true ∧ k.statics = some a ∧ H[a]? = some cell ∧ cell.vm.isStatics = true ∧ cell.cls = c ∧ f.slot < cell.slots.size ∧ k.staticTypes[f.slot]? = some f.type ∧ ¬ A a
theorem vx_L.moved {C n d : String} {A : Nat → Prop} {u U : State} {H : Heap} (hvm : u.vm.Alike U.vm) (h : vx_L C n d A u H) : vx_L C n d A U H := by
  obtain ⟨c, k, i, f, a, cell, h1, h2, h3, h4, h5, h6, h7, h8, h9, h10⟩ := h
  obtain ⟨k', hi', he⟩ := State.fieldFound?_setVm hvm h2
  exact ⟨c, k', i, f, a, cell, by rw [hvm.findClass]; exact h1, hi', h3, by rw [he]; exact h4, h5, h6, h7, h8, by rw [he]; exact h9, h10⟩
theorem vx_L.kept {C n d : String} {A : Nat → Prop} {U : State} {H H1 : Heap} (h : vx_L C n d A U H) (hq : ∀ a : Nat, a < H.size → ¬ A a → H1[a]? = H[a]?) : vx_L C n d A U H1 := by
  obtain ⟨c, k, i, f, a, cell, h1, h2, h3, h4, h5, h6, h7, h8, h9, h10⟩ := h
  exact ⟨c, k, i, f, a, cell, h1, h2, h3, h4, by rw [hq a (Array.getElem?_eq_some_iff.mp h5).1 h10]; exact h5, h6, h7, h8, h9, h10⟩
theorem vx_L.narrow {C n d : String} {A B : Nat → Prop} {U : State} {H : Heap} (h : vx_L C n d A U H) (hAB : ∀ q, B q → A q) : vx_L C n d B U H := by
  obtain ⟨c, k, i, f, a, cell, h1, h2, h3, h4, h5, h6, h7, h8, h9, h10⟩ := h
  exact ⟨c, k, i, f, a, cell, h1, h2, h3, h4, h5, h6, h7, h8, h9, fun z => h10 (hAB _ z)⟩
theorem vx_L.word {C n d : String} {A : Nat → Prop} {s : State} {args : Array Value} (h : vx_L C n d A s s.heap) : (Cond.laysStatic C n d).before args s = true := by
  obtain ⟨c, k, i, f, a, cell, h1, h2, h3, h4, h5, h6, h7, h8, h9, -⟩ := h
  show (Cond.laysStatic C n d).holds args s none s [] = true
  exact Cond.laysStatic_of h1 h2 h3 h4 h5 h6 h7 h8 h9
/-- .. and what it holds: null or some reference -/
def vx_Zq (C n d : String) (A : Nat → Prop) (U : State) (H : Heap) : Prop := va_Zq C n d A U H ∧ vx_L C n d A U H
theorem vx_Zq.moved {C n d : String} {A : Nat → Prop} {u U : State} {H : Heap} (hvm : u.vm.Alike U.vm) (h : vx_Zq C n d A u H) : vx_Zq C n d A U H := ⟨va_Zq.moved hvm h.1, vx_L.moved hvm h.2⟩
theorem vx_Zq.kept {C n d : String} {A : Nat → Prop} {U : State} {H H1 : Heap} (h : vx_Zq C n d A U H) (hq : ∀ a : Nat, a < H.size → ¬ A a → H1[a]? = H[a]?) : vx_Zq C n d A U H1 := ⟨va_Zq.kept h.1 hq, vx_L.kept h.2 hq⟩
theorem vx_Zq.narrow {C n d : String} {A B : Nat → Prop} {U : State} {H : Heap} (h : vx_Zq C n d A U H) (hAB : ∀ q, B q → A q) : vx_Zq C n d B U H := ⟨va_Zq.narrow h.1 hAB, vx_L.narrow h.2 hAB⟩
theorem vx_Zqof {args : Array Value} {s : State} {C n d : String} {A : Nat → Prop} (hl : (Cond.laysStatic C n d).before args s = true) (hini : (Cond.initialized C).before args s = true) (h : (Cond.isRef (.static C n d)).before args s = true) (hA : ∀ a : Nat, a < s.heap.size → ¬ A a) : vx_Zq C n d A s s.heap := by
  refine ⟨va_Zqof hl hini h hA, ?_⟩
  obtain ⟨c, k, i, f, a, cell, h1, h2, h3, h4, h5, h6, h7, h8, h9⟩ := Cond.laysStatic_spec hl
  exact ⟨c, k, i, f, a, cell, h1, h2, h3, h4, h5, h6, h7, h8, h9, hA a (Array.getElem?_eq_some_iff.mp h5).1⟩
theorem vx_isRef {C n d : String} {v : Value} {A : Nat → Prop} {s : State} {args : Array Value} (h : va_Z C n d v A s s.heap) (hv : v.isRef = true) : (Cond.isRef (.static C n d)).before args s = true := by
  obtain ⟨cf, kf, fi, f, a, cell, h1, h2, h3, h4, h5, h6, h7, -⟩ := h
  have he : (Term.static C n d).eval args s none [] s = some v := by
    simp [Term.eval, State.fieldNamed?, h1, h2, h4, h5, h6, h7]
  simp only [Cond.before, Cond.holds, Cond.value, he]
  cases v <;> simp_all [Value.isRef]
theorem vx_isRefq {C n d : String} {A : Nat → Prop} {s : State} {args : Array Value} (h : va_Zq C n d A s s.heap) : (Cond.isRef (.static C n d)).before args s = true := by
  rcases h with h | ⟨t, h⟩
  · exact vx_isRef h rfl
  · exact vx_isRef h rfl
/-- the same frame, seen from here: as if the method were called anew in this heap -/
theorem vx_rebase {T : State} (X : Stand p l e R s m args below meth c T locs cells slots) {R' : Room} (hf : R'.frames ≤ R.frames) (hl : R'.locals ≤ R.locals) (hc : cells + R'.cells ≤ R.cells) (hs : slots + R'.slots ≤ R.slots) :
    Stand p l e R' ((T.setVm s.vm).setFrames (.invoking m args :: below)) m args below meth c T [] 0 0 := by
  have htop : (T.setVm s.vm).topJava?.isSome := X.here.top
  have hF : ((T.setVm s.vm).setFrames (.invoking m args :: below)).frames = .invoking m args :: below := State.frames_setFrames _ (State.cur_lt_of_top htop)
  obtain ⟨g₀, hg0⟩ := Option.isSome_iff_exists.mp htop
  obtain ⟨r, hr⟩ := State.topJava?_eq_some.mp hg0
  have hl9 : e.platform.stackLimits (T.setVm s.vm).me = e.platform.stackLimits s.me := X.limits
  have hb9 : (T.setVm s.vm).me.stackBytes = s.me.stackBytes := X.bytes
  refine ⟨X.admits, X.cas, X.clock, hF, ?_, X.hears, X.method, X.code, X.here, X.tail, X.warmed, ?_, ?_, ?_⟩
  · have h := X.room
    have hU : ((T.setVm s.vm).setFrames (.invoking m args :: below)).localsInUse = s.localsInUse := by
      rw [State.localsInUse_invoking hF (meth := meth) (c := c) X.method X.code, State.localsInUse_invoking X.frames X.method X.code]
    simp only [State.hasRoom, Bool.and_eq_true, decide_eq_true_eq] at h ⊢
    obtain ⟨⟨⟨⟨h1, h2, h3, h4, h5, h6⟩, h7⟩, h8⟩, h9⟩ := h
    rw [X.frames, List.length_cons] at h2 h3
    have q1 := X.heapSize
    have q2 := X.used
    simp only [hF, hU, List.length_cons, State.stackLimits_setFrames, State.stackBytes_setFrames, hl9, hb9]
    refine ⟨⟨⟨⟨by omega, by omega, by omega, by omega, by omega, h6⟩, ?_⟩, ?_⟩, X.book⟩
    · show T.heap.size + R'.cells ≤ e.platform.maxCells
      omega
    · show T.slotsUsed + R'.slots ≤ e.platform.maxSlots
      omega
  · rw [State.stackLimits_setFrames]; rfl
  · rw [State.stackBytes_setFrames]; rfl
  · refine ⟨?_, Nat.le_refl _, Nat.le_refl _, ?_, ?_, fun a c9 h9 => ⟨c9, h9, rfl, rfl, fun _ _ => rfl⟩⟩
    · obtain ⟨t, ht, -⟩ := State.frames_cons hr
      show T.setVm s.vm = { ((T.setVm s.vm).setFrames (.invoking m args :: below)).setFrames (T.setVm s.vm).frames with heap := T.heap, slotsUsed := T.slotsUsed }
      rw [State.setFrames_setFrames, State.setFrames_self ht]
      rfl
    · show T.slotsUsed = T.slotsUsed + ((T.heap.toList.drop T.heap.size).map (·.slots.size)).sum
      rw [List.drop_eq_nil_of_le (Nat.le_of_eq Array.length_toList)]
      rfl
    · show ((T.heap.toList.drop T.heap.size).map (·.slots.size)).sum ≤ 0
      rw [List.drop_eq_nil_of_le (Nat.le_of_eq Array.length_toList)]
      exact Nat.le_refl _
/-- 'throw new E()': new; dup; invokespecial; athrow -/
theorem vx_throw0 {cc : ByteArray} {pc : Nat} (hexec : p.tables.exec = Jvm.exec) (hb : c.code = cc) (hl : l.stackTraces = false) {own cls : String} {names : List String} {ik ic mc ms : Nat} {A : Nat → Prop}
    (hown : s.vm.findClass own = some m.cls) (hcls : Bundle.fit cls = true) (hnames : ∀ n ∈ names, Bundle.fit n = true)
    (hk : (Cond.classLink own ik cls).before args s = true) (hini : (Cond.initialized cls).before args s = true) (hat : ∀ w ∈ vx_at0 own ic cls names, w.before args s = true)
    (hgood : ∀ w ∈ Cond.classLink own ik cls :: Cond.initialized cls :: vx_at0 own ic cls names, vx_ot w = true)
    (hU : vx_Zq Bundle.tN "UNASSIGNED_STACK" Bundle.steD A s s.heap) (hN : vx_Zq Bundle.tN "SUPPRESSED_SENTINEL" Bundle.listD A s s.heap) (hS : va_S A s.heap H locs) (hsize : ls.size = c.maxLocals)
    (d0 : decode cc pc = .ok (.new ik, 3)) (d3 : decode cc (pc + 3) = .ok (.dup, 1)) (d4 : decode cc (pc + 4) = .ok (.invokespecial ic, 3)) (d7 : decode cc (pc + 7) = .ok (.athrow, 1))
    (hout : ∀ x ∈ c.exceptionTable.toList, covers x (pc + 7) = false)
    (hRframes : names.length + 3 < R.frames) (hRlocals : (rest.map fun v => v.category).sum + (13 * (names.length + 1) + 42) ≤ R.locals) (hRcells : cells + 1 ≤ R.cells) (hRslots : slots + 6 ≤ R.slots) (hlocks : meth.locks = false)
    (hx : ∀ t : State, s.vm.Alike t.vm → H.size ≤ t.heap.size → (∀ q : Nat, q < H.size → t.heap[q]? = H[q]?) → XC cls s t)
    (hf : ∀ z ∈ locs, free z.base) (hc : cells + 1 ≤ mc) (hs : slots + 6 ≤ ms) :
    W p l e R s m args below meth c H locs cells slots (vx_MQ below Qc XC args s mc ms free) (F0 m pc ls rest) := by
  intro T hT X
  have htr : e.platform.stackTraces = false := (show e.platform.stackTraces = l.stackTraces by rw [X.admits.platform]).trans hl
  have Y := vx_rebase X (R' := { frames := R.frames, locals := R.locals, cells := 1, slots := 6 }) (Nat.le_refl _) (Nat.le_refl _) hRcells hRslots
  obtain ⟨s', hA⟩ : ∃ z, z = (T.setVm s.vm).setFrames (.invoking m args :: below) := ⟨_, rfl⟩
  rw [← hA] at Y
  have hvm : s'.vm = s.vm := by rw [hA]; rfl
  have hhp : s'.heap = H := by rw [hA]; exact hT
  have hW0 : s.WarmedH s'.vm := by rw [hvm]; exact State.WarmedH.refl s
  have hat' : ∀ w ∈ vx_at0 own ic cls names, w.before args s' = true := fun w hw => vx_ot_at hW0 hvm.symm (hgood w (List.mem_cons_of_mem _ (List.mem_cons_of_mem _ hw))) (hat w hw)
  have hk' : (Cond.classLink own ik cls).before args s' = true := vx_ot_at hW0 hvm.symm (hgood _ List.mem_cons_self) hk
  have hini' : (Cond.initialized cls).before args s' = true := vx_ot_at hW0 hvm.symm (hgood _ (List.mem_cons_of_mem _ List.mem_cons_self)) hini
  have hU' : vx_Zq Bundle.tN "UNASSIGNED_STACK" Bundle.steD A s' s'.heap := by rw [hhp]; exact vx_Zq.moved hW0.alike (hU.kept hS.2.1)
  have hN' : vx_Zq Bundle.tN "SUPPRESSED_SENTINEL" Bundle.listD A s' s'.heap := by rw [hhp]; exact vx_Zq.moved hW0.alike (hN.kept hS.2.1)
  have h : ∀ w ∈ Bundle.ownAtoms0 own ic cls names, w.before args s' = true := vx_own hat' (vx_isRefq hU'.1) (vx_isRefq hN'.1) hU'.2.word hN'.2.word
  have hown' : s'.vm.findClass own = some m.cls := by rw [hvm]; exact hown
  have hins : (Cond.instantiable cls 6).before args s' = true := h _ (by simp [Bundle.ownAtoms0])
  obtain ⟨vm₁, cX, kX, hfX, hkX, -, -, X₁, st1⟩ := Y.newCold hexec (own := own) (C := cls) (index := ik) (n := 6) hown' hk' hins hini'
    (g := F0 m pc ls rest) rfl (by rw [hb]; exact d0) (Nat.le_refl _) (Nat.le_refl _)
  generalize hT1 : (T.setVm vm₁).pushCell { cls := cX, slots := kX.instanceTypes.map defaultValue, vm := .none } = T1 at X₁ st1
  have hcat : (Value.ref T.heap.size).category = 1 := rfl
  have hcellA : T1.heap[T.heap.size]? = some (freshCell cX kX) := by rw [← hT1]; exact State.heap_pushCell_size _ _
  have d3' : decode c.code (pc + 3) = .ok (.dup, 1) := by rw [hb]; exact d3
  obtain ⟨U, hsteps, hrun, hend, hW, hsame, ce, hce, hO⟩ := X₁.ctorThrow0 hexec htr (own := own) (cls := cls) (names := names) (ic := ic) hown' hcls hnames h (fun x hx => nomatch hx) hfX hkX hcellA (by rw [hhp, hT]; exact Nat.le_refl _)
    (g := { method := m, pc := pc + 4, locals := ls, stack := .ref T.heap.size :: .ref T.heap.size :: rest, locked := none }) rfl hsize rfl rfl (rest := rest) rfl
    (by rw [hb]; exact d4) (by rw [hb]; exact d7) hout hRframes (by simp only [List.map_cons, List.sum_cons, hcat]; omega) hlocks
  obtain ⟨f1, f2⟩ := vx_frame hsame
  rw [hhp] at f1 f2
  have hWs : s.WarmedH U.vm := State.WarmedH.trans hW0 hW
  have hcl : s.vm.findClass cls = some ce.cls := by
    have h9 := hO.cls
    rw [hvm] at h9
    exact h9
  have hall : s.sameButNew ({ U with vm := s.vm } : State) locs mc ms := by
    subst hA
    obtain ⟨e1, e2⟩ := hsame
    rw [State.setFrames_setFrames] at e1
    have h2 : (T.setVm s.vm).sameButNew ({ U with vm := s.vm } : State) [] (0 + 1) (0 + 6) := ⟨e1, e2⟩
    have h3 := X.same.trans h2
    rw [List.append_nil] at h3
    exact h3.mono hc hs
  refine ⟨U, ?_, .threw T.heap.size, hrun, hend, Or.inr ⟨T.heap.size, rfl, cls, ce, locs, hx U hWs.alike f1 (fun q hq => f2 q hq (fun z hz => nomatch hz)), hce, hO.vm, hcl, hWs, hall, hf⟩⟩
  refine st1 _ ?_
  show Steps p.tables e below (T1.setTop { method := m, pc := pc + 3, locals := ls, stack := .ref T.heap.size :: rest, locked := none }) _
  jvm_step X₁.here [X₁.here.top, hexec, d3', Value.category]
  exact hsteps
/-- 'throw new E("text")': new; dup; ldc; invokespecial; athrow -/
theorem vx_throwS {cc : ByteArray} {pc : Nat} (hexec : p.tables.exec = Jvm.exec) (hb : c.code = cc) (hl : l.stackTraces = false) {own cls text : String} {names : List String} {ik is ic mc ms sa : Nat} {A : Nat → Prop}
    (hown : s.vm.findClass own = some m.cls) (hcls : Bundle.fit cls = true) (hnames : ∀ n ∈ names, Bundle.fit n = true)
    (hk : (Cond.classLink own ik cls).before args s = true) (hini : (Cond.initialized cls).before args s = true) (hstr : vk_R own is text sa s) (hat : ∀ w ∈ vx_atS own ic cls names, w.before args s = true)
    (hgood : ∀ w ∈ Cond.classLink own ik cls :: Cond.initialized cls :: vx_atS own ic cls names, vx_ot w = true)
    (hU : vx_Zq Bundle.tN "UNASSIGNED_STACK" Bundle.steD A s s.heap) (hN : vx_Zq Bundle.tN "SUPPRESSED_SENTINEL" Bundle.listD A s s.heap) (hS : va_S A s.heap H locs) (hsize : ls.size = c.maxLocals)
    (d0 : decode cc pc = .ok (.new ik, 3)) (d3 : decode cc (pc + 3) = .ok (.dup, 1)) (d4 : decode cc (pc + 4) = .ok (.ldc is, 2)) (d6 : decode cc (pc + 6) = .ok (.invokespecial ic, 3)) (d9 : decode cc (pc + 9) = .ok (.athrow, 1))
    (hout : ∀ x ∈ c.exceptionTable.toList, covers x (pc + 9) = false)
    (hRframes : names.length + 3 < R.frames) (hRlocals : (rest.map fun v => v.category).sum + (13 * (names.length + 1) + 43) ≤ R.locals) (hRcells : cells + 1 ≤ R.cells) (hRslots : slots + 6 ≤ R.slots) (hlocks : meth.locks = false)
    (hx : ∀ t : State, s.vm.Alike t.vm → H.size ≤ t.heap.size → (∀ q : Nat, q < H.size → t.heap[q]? = H[q]?) → XC cls s t)
    (hf : ∀ z ∈ locs, free z.base) (hc : cells + 1 ≤ mc) (hs : slots + 6 ≤ ms) :
    W p l e R s m args below meth c H locs cells slots (vx_MQ below Qc XC args s mc ms free) (F0 m pc ls rest) := by
  intro T hT X
  have htr : e.platform.stackTraces = false := (show e.platform.stackTraces = l.stackTraces by rw [X.admits.platform]).trans hl
  have Y := vx_rebase X (R' := { frames := R.frames, locals := R.locals, cells := 1, slots := 6 }) (Nat.le_refl _) (Nat.le_refl _) hRcells hRslots
  obtain ⟨s', hA⟩ : ∃ z, z = (T.setVm s.vm).setFrames (.invoking m args :: below) := ⟨_, rfl⟩
  rw [← hA] at Y
  have hvm : s'.vm = s.vm := by rw [hA]; rfl
  have hhp : s'.heap = H := by rw [hA]; exact hT
  have hW0 : s.WarmedH s'.vm := by rw [hvm]; exact State.WarmedH.refl s
  have hat' : ∀ w ∈ vx_atS own ic cls names, w.before args s' = true := fun w hw => vx_ot_at hW0 hvm.symm (hgood w (List.mem_cons_of_mem _ (List.mem_cons_of_mem _ hw))) (hat w hw)
  have hk' : (Cond.classLink own ik cls).before args s' = true := vx_ot_at hW0 hvm.symm (hgood _ List.mem_cons_self) hk
  have hini' : (Cond.initialized cls).before args s' = true := vx_ot_at hW0 hvm.symm (hgood _ (List.mem_cons_of_mem _ List.mem_cons_self)) hini
  have hU' : vx_Zq Bundle.tN "UNASSIGNED_STACK" Bundle.steD A s' s'.heap := by rw [hhp]; exact vx_Zq.moved hW0.alike (hU.kept hS.2.1)
  have hN' : vx_Zq Bundle.tN "SUPPRESSED_SENTINEL" Bundle.listD A s' s'.heap := by rw [hhp]; exact vx_Zq.moved hW0.alike (hN.kept hS.2.1)
  have h : ∀ w ∈ Bundle.ownAtoms own ic cls names, w.before args s' = true := vx_own hat' (vx_isRefq hU'.1) (vx_isRefq hN'.1) hU'.2.word hN'.2.word
  have hown' : s'.vm.findClass own = some m.cls := by rw [hvm]; exact hown
  have hins : (Cond.instantiable cls 6).before args s' = true := h _ (by simp [Bundle.ownAtoms])
  obtain ⟨vm₁, cX, kX, hfX, hkX, -, -, X₁, st1⟩ := Y.newCold hexec (own := own) (C := cls) (index := ik) (n := 6) hown' hk' hins hini'
    (g := F0 m pc ls rest) rfl (by rw [hb]; exact d0) (Nat.le_refl _) (Nat.le_refl _)
  generalize hT1 : (T.setVm vm₁).pushCell { cls := cX, slots := kX.instanceTypes.map defaultValue, vm := .none } = T1 at X₁ st1
  have hcat : (Value.ref T.heap.size).category = 1 := rfl
  have hcellA : T1.heap[T.heap.size]? = some (freshCell cX kX) := by rw [← hT1]; exact State.heap_pushCell_size _ _
  have d3' : decode c.code (pc + 3) = .ok (.dup, 1) := by rw [hb]; exact d3
  have d4' : decode c.code (pc + 4) = .ok (.ldc is, 2) := by rw [hb]; exact d4
  have hstr' : vk_R own is text sa s' := vk_R.warm hW0 hstr
  obtain ⟨U, hsteps, hrun, hend, hW, hsame, ce, hce, hO⟩ := X₁.ctorThrowS hexec htr (own := own) (cls := cls) (names := names) (ic := ic) hown' hcls hnames h (fun x hx => nomatch hx) hfX hkX hcellA (by rw [hhp, hT]; exact Nat.le_refl _) (msg := .ref sa) rfl
    (g := { method := m, pc := pc + 6, locals := ls, stack := .ref sa :: .ref T.heap.size :: .ref T.heap.size :: rest, locked := none }) rfl hsize rfl rfl (rest := rest) rfl
    (by rw [hb]; exact d6) (by rw [hb]; exact d9) hout hRframes (by simp only [List.map_cons, List.sum_cons, hcat]; omega) hlocks
  obtain ⟨f1, f2⟩ := vx_frame hsame
  rw [hhp] at f1 f2
  have hWs : s.WarmedH U.vm := State.WarmedH.trans hW0 hW
  have hcl : s.vm.findClass cls = some ce.cls := by
    have h9 := hO.cls
    rw [hvm] at h9
    exact h9
  have hall : s.sameButNew ({ U with vm := s.vm } : State) locs mc ms := by
    subst hA
    obtain ⟨e1, e2⟩ := hsame
    rw [State.setFrames_setFrames] at e1
    have h2 : (T.setVm s.vm).sameButNew ({ U with vm := s.vm } : State) [] (0 + 1) (0 + 6) := ⟨e1, e2⟩
    have h3 := X.same.trans h2
    rw [List.append_nil] at h3
    exact h3.mono hc hs
  refine ⟨U, ?_, .threw T.heap.size, hrun, hend, Or.inr ⟨T.heap.size, rfl, cls, ce, locs, hx U hWs.alike f1 (fun q hq => f2 q hq (fun z hz => nomatch hz)), hce, hO.vm, hcl, hWs, hall, hf⟩⟩
  refine st1 _ ?_
  show Steps p.tables e below (T1.setTop { method := m, pc := pc + 3, locals := ls, stack := .ref T.heap.size :: rest, locked := none }) _
  jvm_step X₁.here [X₁.here.top, hexec, d3', Value.category]
  exact X₁.ldcString hexec (own := own) (text := text) (index := is) (a := sa) hown' hstr'.1 hstr'.2
    (g := { method := m, pc := pc + 4, locals := ls, stack := .ref T.heap.size :: .ref T.heap.size :: rest, locked := none }) rfl d4' _ hsteps
/-- 'throw new E("text")', the text by a wide index -/
theorem vx_throwSW {cc : ByteArray} {pc : Nat} (hexec : p.tables.exec = Jvm.exec) (hb : c.code = cc) (hl : l.stackTraces = false) {own cls text : String} {names : List String} {ik is ic mc ms sa : Nat} {A : Nat → Prop}
    (hown : s.vm.findClass own = some m.cls) (hcls : Bundle.fit cls = true) (hnames : ∀ n ∈ names, Bundle.fit n = true)
    (hk : (Cond.classLink own ik cls).before args s = true) (hini : (Cond.initialized cls).before args s = true) (hstr : vk_R own is text sa s) (hat : ∀ w ∈ vx_atS own ic cls names, w.before args s = true)
    (hgood : ∀ w ∈ Cond.classLink own ik cls :: Cond.initialized cls :: vx_atS own ic cls names, vx_ot w = true)
    (hU : vx_Zq Bundle.tN "UNASSIGNED_STACK" Bundle.steD A s s.heap) (hN : vx_Zq Bundle.tN "SUPPRESSED_SENTINEL" Bundle.listD A s s.heap) (hS : va_S A s.heap H locs) (hsize : ls.size = c.maxLocals)
    (d0 : decode cc pc = .ok (.new ik, 3)) (d3 : decode cc (pc + 3) = .ok (.dup, 1)) (d4 : decode cc (pc + 4) = .ok (.ldc_w is, 3)) (d7 : decode cc (pc + 7) = .ok (.invokespecial ic, 3)) (d10 : decode cc (pc + 10) = .ok (.athrow, 1))
    (hout : ∀ x ∈ c.exceptionTable.toList, covers x (pc + 10) = false)
    (hRframes : names.length + 3 < R.frames) (hRlocals : (rest.map fun v => v.category).sum + (13 * (names.length + 1) + 43) ≤ R.locals) (hRcells : cells + 1 ≤ R.cells) (hRslots : slots + 6 ≤ R.slots) (hlocks : meth.locks = false)
    (hx : ∀ t : State, s.vm.Alike t.vm → H.size ≤ t.heap.size → (∀ q : Nat, q < H.size → t.heap[q]? = H[q]?) → XC cls s t)
    (hf : ∀ z ∈ locs, free z.base) (hc : cells + 1 ≤ mc) (hs : slots + 6 ≤ ms) :
    W p l e R s m args below meth c H locs cells slots (vx_MQ below Qc XC args s mc ms free) (F0 m pc ls rest) := by
  intro T hT X
  have htr : e.platform.stackTraces = false := (show e.platform.stackTraces = l.stackTraces by rw [X.admits.platform]).trans hl
  have Y := vx_rebase X (R' := { frames := R.frames, locals := R.locals, cells := 1, slots := 6 }) (Nat.le_refl _) (Nat.le_refl _) hRcells hRslots
  obtain ⟨s', hA⟩ : ∃ z, z = (T.setVm s.vm).setFrames (.invoking m args :: below) := ⟨_, rfl⟩
  rw [← hA] at Y
  have hvm : s'.vm = s.vm := by rw [hA]; rfl
  have hhp : s'.heap = H := by rw [hA]; exact hT
  have hW0 : s.WarmedH s'.vm := by rw [hvm]; exact State.WarmedH.refl s
  have hat' : ∀ w ∈ vx_atS own ic cls names, w.before args s' = true := fun w hw => vx_ot_at hW0 hvm.symm (hgood w (List.mem_cons_of_mem _ (List.mem_cons_of_mem _ hw))) (hat w hw)
  have hk' : (Cond.classLink own ik cls).before args s' = true := vx_ot_at hW0 hvm.symm (hgood _ List.mem_cons_self) hk
  have hini' : (Cond.initialized cls).before args s' = true := vx_ot_at hW0 hvm.symm (hgood _ (List.mem_cons_of_mem _ List.mem_cons_self)) hini
  have hU' : vx_Zq Bundle.tN "UNASSIGNED_STACK" Bundle.steD A s' s'.heap := by rw [hhp]; exact vx_Zq.moved hW0.alike (hU.kept hS.2.1)
  have hN' : vx_Zq Bundle.tN "SUPPRESSED_SENTINEL" Bundle.listD A s' s'.heap := by rw [hhp]; exact vx_Zq.moved hW0.alike (hN.kept hS.2.1)
  have h : ∀ w ∈ Bundle.ownAtoms own ic cls names, w.before args s' = true := vx_own hat' (vx_isRefq hU'.1) (vx_isRefq hN'.1) hU'.2.word hN'.2.word
  have hown' : s'.vm.findClass own = some m.cls := by rw [hvm]; exact hown
  have hins : (Cond.instantiable cls 6).before args s' = true := h _ (by simp [Bundle.ownAtoms])
  obtain ⟨vm₁, cX, kX, hfX, hkX, -, -, X₁, st1⟩ := Y.newCold hexec (own := own) (C := cls) (index := ik) (n := 6) hown' hk' hins hini'
    (g := F0 m pc ls rest) rfl (by rw [hb]; exact d0) (Nat.le_refl _) (Nat.le_refl _)
  generalize hT1 : (T.setVm vm₁).pushCell { cls := cX, slots := kX.instanceTypes.map defaultValue, vm := .none } = T1 at X₁ st1
  have hcat : (Value.ref T.heap.size).category = 1 := rfl
  have hcellA : T1.heap[T.heap.size]? = some (freshCell cX kX) := by rw [← hT1]; exact State.heap_pushCell_size _ _
  have d3' : decode c.code (pc + 3) = .ok (.dup, 1) := by rw [hb]; exact d3
  have d4' : decode c.code (pc + 4) = .ok (.ldc_w is, 3) := by rw [hb]; exact d4
  have hstr' : vk_R own is text sa s' := vk_R.warm hW0 hstr
  obtain ⟨U, hsteps, hrun, hend, hW, hsame, ce, hce, hO⟩ := X₁.ctorThrowS hexec htr (own := own) (cls := cls) (names := names) (ic := ic) hown' hcls hnames h (fun x hx => nomatch hx) hfX hkX hcellA (by rw [hhp, hT]; exact Nat.le_refl _) (msg := .ref sa) rfl
    (g := { method := m, pc := pc + 7, locals := ls, stack := .ref sa :: .ref T.heap.size :: .ref T.heap.size :: rest, locked := none }) rfl hsize rfl rfl (rest := rest) rfl
    (by rw [hb]; exact d7) (by rw [hb]; exact d10) hout hRframes (by simp only [List.map_cons, List.sum_cons, hcat]; omega) hlocks
  obtain ⟨f1, f2⟩ := vx_frame hsame
  rw [hhp] at f1 f2
  have hWs : s.WarmedH U.vm := State.WarmedH.trans hW0 hW
  have hcl : s.vm.findClass cls = some ce.cls := by
    have h9 := hO.cls
    rw [hvm] at h9
    exact h9
  have hall : s.sameButNew ({ U with vm := s.vm } : State) locs mc ms := by
    subst hA
    obtain ⟨e1, e2⟩ := hsame
    rw [State.setFrames_setFrames] at e1
    have h2 : (T.setVm s.vm).sameButNew ({ U with vm := s.vm } : State) [] (0 + 1) (0 + 6) := ⟨e1, e2⟩
    have h3 := X.same.trans h2
    rw [List.append_nil] at h3
    exact h3.mono hc hs
  refine ⟨U, ?_, .threw T.heap.size, hrun, hend, Or.inr ⟨T.heap.size, rfl, cls, ce, locs, hx U hWs.alike f1 (fun q hq => f2 q hq (fun z hz => nomatch hz)), hce, hO.vm, hcl, hWs, hall, hf⟩⟩
  refine st1 _ ?_
  show Steps p.tables e below (T1.setTop { method := m, pc := pc + 3, locals := ls, stack := .ref T.heap.size :: rest, locked := none }) _
  jvm_step X₁.here [X₁.here.top, hexec, d3', Value.category]
  exact X₁.ldcStringW hexec (own := own) (text := text) (index := is) (a := sa) hown' hstr'.1 hstr'.2
    (g := { method := m, pc := pc + 4, locals := ls, stack := .ref T.heap.size :: .ref T.heap.size :: rest, locked := none }) rfl d4' _ hsteps
end Ends
section Bodies
variable {l : Launch}
theorem vx_ofW {y : MethodName} {ws ws' : List Cond} {rm : Room} {Pc : Array Value → State → Prop} {Qc : Array Value → State → Outcome → State → Prop} {XC : String → State → State → Prop} {mc ms : Nat} {free : Addr → Prop} {cc : ByteArray} {maxL : Nat} {ret : Option FieldType}
    (hy : plainName y.cls = true) (hw : ws = Cond.code y cc maxL ret :: ws')
    (body : ∀ p e s m args below meth c s₁, BodyLoose p l y (headSpec ws rm) cc maxL ret e s m args below meth c s₁ → c.maxLocals = maxL → (∀ x ∈ c.exceptionTable.toList, False) → Pc args s →
      W p l e (headSpec ws rm).room s m args below meth c s.heap [] 0 0 (vx_MQ below Qc XC args s mc ms free) (entryFrame m args maxL)) : vx_Met l y ws rm Pc Qc XC mc ms free := by
  refine MetFree.of_bodyS (code := cc) (maxLocals := maxL) (ret := ret) hy ?_ ?_
  · intro args s m h hn
    obtain ⟨meth, c, h1, h2, h3, h4, h5, h6, -, -⟩ := Cond.code_spec hn (atoms_spec (ws := ws) h _ (by rw [hw]; exact List.mem_cons_self))
    exact ⟨meth, c, h1, h2, h3, h4, h5, h6⟩
  · intro p e s m args below meth c s₁ B hml hP _
    have hh0 : s₁.heap = s.heap := by rw [B.state]; rfl
    have ht : ∀ x ∈ c.exceptionTable.toList, False := by
      obtain ⟨meth9, c9, h1, h2, -, -, -, -, h7, -⟩ := Cond.code_spec B.named (atoms_spec (ws := ws) B.pre _ (by rw [hw]; exact List.mem_cons_self))
      cases Option.some.inj (h1.symm.trans B.method)
      cases Option.some.inj (h2.symm.trans (Stand.of_body B).code)
      intro x hx
      rw [Array.isEmpty_iff.mp h7] at hx
      cases hx
    obtain ⟨t, a1, o, b1, b2, b3⟩ := body p e s m args below meth c s₁ B hml ht hP s₁ hh0 (Stand.of_body B)
    exact ⟨t, o, a1, b1, b2, b3⟩
/-- the table of a body with handlers -/
theorem vx_table {p : Program} {x y : MethodName} {S : Spec} {cc bytes : ByteArray} {maxL maxL' : Nat} {ret ret' : Option FieldType} {e : Env} {s s₁ : State} {m : MethodId} {args : Array Value} {below : List Frame} {meth : Method} {c : Code} {hh : List (Nat × Nat × Nat × Nat)}
    (B : BodyLoose p l y S cc maxL ret e s m args below meth c s₁) (h : (Cond.codeWith y bytes maxL' ret' hh).before args s = true) : c.exceptionTable.toList = tableOf hh := by
  obtain ⟨m9, meth9, c9, hn9, h1, h2, -, -, h6, -⟩ := Cond.codeWith_spec h
  cases Option.some.inj (hn9.symm.trans B.named)
  cases Option.some.inj (h1.symm.trans B.method)
  cases Option.some.inj (h2.symm.trans (Stand.of_body B).code)
  rw [← h6, table_eq]
end Bodies
end VXA
/-! ===== END ===== -/
/-! ===== BEGIN a static call of a method with an exception table ===== -/
section VXS
variable {p : Program} {l : Launch} {e : Env} {R : Room} {s : State} {m : MethodId} {args : Array Value} {below : List Frame} {meth : Method} {c : Code} {T : State} {H : Heap} {locs : List Loc} {cells slots : Nat}
abbrev vx_CSW (R : Room) (s : State) (args : Array Value) (own : String) (index : Nat) (y : MethodName) (bytes : ByteArray) (maxL : Nat) (ret : Option FieldType) (hh : List (Nat × Nat × Nat × Nat)) (ws : List Cond) (rm : Room) (mc ms n : Nat) : Prop :=
  (rm.cells = mc ∧ rm.slots = ms ∧ rm.frames + 1 ≤ R.frames ∧ 8 + (maxL + 11) + rm.locals ≤ R.locals ∧ (∀ w ∈ ws, ∀ (a' : Array Value) (U : State), s.WarmedH U.vm → w.before a' U = true) ∧ Cond.codeWith y bytes maxL ret hh ∈ ws) ∧
  (Cond.codeWith y bytes maxL ret hh).before args s = true ∧ (Cond.initialized y.cls).before args s = true ∧ (y.cls ≠ "java/lang/invoke/MethodHandle" ∧ y.cls ≠ "java/lang/invoke/VarHandle") ∧
  (∀ sig, parseMethodDescriptor y.desc = some sig → n = sig.parameters.length) ∧ (Cond.methodLink own index y).before args s = true ∧ (Cond.static y).before args s = true
theorem vx_cwSW {own : String} {index maxL mc ms : Nat} {y : MethodName} {bytes : ByteArray} {ret : Option FieldType} {hh : List (Nat × Nat × Nat × Nat)} {Ts ws ws' : List Cond} {rm : Room} (n : Nat) (ht : ∀ w ∈ Ts, w.before args s = true) (hT : GoodIn Ts (va_wsS own index y ws)) (hw : ws = Cond.codeWith y bytes maxL ret hh :: ws') (hrc : rm.cells = mc) (hrs : rm.slots = ms)
    (hd : y.cls ≠ "java/lang/invoke/MethodHandle" ∧ y.cls ≠ "java/lang/invoke/VarHandle" ∧ (parseMethodDescriptor y.desc).map (fun d => d.parameters.length) = some n) (hR : rm.frames + 1 ≤ R.frames ∧ 8 + (maxL + 11) + rm.locals ≤ R.locals) :
    vx_CSW R s args own index y bytes maxL ret hh ws rm mc ms n := by
  have ok : ∀ w ∈ va_wsS own index y ws, w.before args s = true := fun w h => ht w (hT w h).1
  have hG : GoodIn Ts ws := fun w h => hT w (by unfold va_wsS; exact List.mem_append_right _ h)
  have hc : Cond.codeWith y bytes maxL ret hh ∈ ws := by rw [hw]; exact List.mem_cons_self
  refine ⟨⟨hrc, hrs, hR.1, hR.2, pay_in ht hG, hc⟩, ht _ (hG _ hc).1, ok _ (by simp [va_wsS]), ⟨hd.1, hd.2.1⟩, fun sig h => ?_, ok _ (by simp [va_wsS]), ok _ (by simp [va_wsS])⟩
  have h2 := hd.2.2
  rw [h] at h2
  exact (Option.some.inj h2).symm
theorem vx_callSW (X : Stand p l e R s m args below meth c T locs cells slots) (hexec : p.tables.exec = Jvm.exec) {own : String} {index : Nat} {y : MethodName} {bytes : ByteArray} {maxL : Nat} {ret : Option FieldType} {hh : List (Nat × Nat × Nat × Nat)}
    (hown : s.vm.findClass own = some m.cls) (hlink : (Cond.methodLink own index y).before args s = true) (hstat : (Cond.static y).before args s = true) (hinit : (Cond.initialized y.cls).before args s = true)
    (hcode : (Cond.codeWith y bytes maxL ret hh).before args s = true) (hy : y.cls ≠ "java/lang/invoke/MethodHandle" ∧ y.cls ≠ "java/lang/invoke/VarHandle")
    {W9 : Nat} {Pre : Pt → Array Value → Prop} {Post : Pt → Array Value → Option Value → Pt → Prop} (hK : Back l R p e below s args y 3 W9 Pre Post)
    {g : JFrame} (hg : g.method = m) (hsize : g.locals.size = c.maxLocals) {argsL rest : List Value} (hlen : ∀ sig, parseMethodDescriptor y.desc = some sig → argsL.length = sig.parameters.length)
    (hstack : g.stack = argsL.reverse ++ rest) (hW : 2 * g.monitorRoom + (rest.map fun v => v.category).sum ≤ W9) (hdg : decode c.code g.pc = .ok (.invokestatic index, 3))
    (hpre : ∀ vm₁, s.WarmedH vm₁ → Pre ⟨T.setVm vm₁, locs, cells, slots⟩ argsL.toArray) :
    ∃ (v : Option Value) (vm₁ : Vm) (B : Pt), s.WarmedH vm₁ ∧ Stand p l e R s m args below meth c B.U B.locs B.cells B.slots ∧ Post ⟨T.setVm vm₁, locs, cells, slots⟩ argsL.toArray v B ∧
      ∀ target, Steps p.tables e below (B.U.setTop { g with pc := g.pc + 3, stack := v.toList ++ rest }) target → Steps p.tables e below (T.setTop g) target := by
  obtain ⟨mk, methM, cM, hnamed, hmethM, -, -, -, -, -, -, hsigM⟩ := Cond.codeWith_spec hcode
  have hstatic : methM.isStatic = true := Cond.static_spec hnamed hmethM hstat
  obtain ⟨kP, hkP, -⟩ := className_of_methodNamed hnamed
  have hinitP : kP.init = .initialized := Cond.initialized_spec (findClass_of_methodNamed hnamed) hkP hinit
  obtain ⟨vm₁, X₁, hstep₁⟩ := X.invokestatic hexec hown hlink hnamed hmethM hstatic hkP hinitP hy (g := g) hg (argsL := argsL) (rest := rest) (hlen _ hsigM) hstack hdg
  obtain ⟨v, B, X', hpost, hsteps⟩ := hK m meth c ⟨T.setVm vm₁, locs, cells, slots⟩ { g with stack := rest } (.invokestatic index) mk argsL.toArray X₁ hg hsize hdg hW (X₁.named hnamed) (hpre vm₁ X₁.warmed)
  exact ⟨v, vm₁, B, X₁.warmed, X', hpost, fun target h => hstep₁ _ fun acts => by rw [doInvoke_state]; exact hsteps.trans h⟩
theorem vx_runSW {y : MethodName} {bytes cc : ByteArray} {maxL nL mc ms n index : Nat} {ret : Option FieldType} {hh : List (Nat × Nat × Nat × Nat)} {ws : List Cond} {rm : Room} {Pc : Array Value → State → Prop} {Qc : Array Value → State → Outcome → State → Prop} {free : Addr → Prop} {Ts : List Cond} {own : String} {As rest : List Value} {g : JFrame}
    (S : CallFix p m c cc nL s args Ts own) (hM : Met l y ws rm Pc Qc mc ms free) (cw : vx_CSW R s args own index y bytes maxL ret hh ws rm mc ms n) (hp : PreS s H Pc As)
    (hg : g.method = m) (hn : As.length = n) (hsize : g.locals.size = nL) (hstack : g.stack = As.reverse ++ rest) (hW : 2 * g.monitorRoom + (rest.map fun v => v.category).sum ≤ 8) (hdg : decode cc g.pc = .ok (.invokestatic index, 3)) (hf : cells + mc ≤ R.cells ∧ slots + ms ≤ R.slots) :
    va_Run p l e R s m args below meth c H locs cells slots mc ms g rest (Qc As.toArray) (free) := by
  obtain ⟨⟨hrc, hrs, hfr, hlo, hws, hcw⟩, hcode, hini, hy, hlen, hl, hstt⟩ := cw
  have hK : Back l R p e below s args y 3 8 (PreOf R mc ms Pc) (PostOf Qc mc ms free) := va_backW (hh := hh) (bytes := bytes) (maxL := maxL) (ret := ret) hM hp.1 hrc hrs hfr hlo hws hcw (fun a' U hW => word_at hW (Or.inl (by first | rfl | simp [Cond.onTables, Cond.keeps, Cond.steady])) hini)
  obtain ⟨hx, hb, hml, ho, -⟩ := S
  intro T hT X
  obtain ⟨v, vm₁, ⟨U', l2, c2, s2⟩, hW₁, X', ⟨g', mk, t, L, e1, e2, hq, h1, hL, h2, h3⟩, st⟩ := vx_callSW X hx (hh := hh) (bytes := bytes) (maxL := maxL) (ret := ret) ho hl hstt hini hcode hy hK hg (hsize.trans hml.symm) (argsL := As) (rest := rest) (fun sig h => hn.trans (hlen sig h)) hstack hW (by rw [hb]; exact hdg)
    (fun vm₁ hW₁ => ⟨hf.1, hf.2, hp.2 (T.setVm vm₁) hT hW₁⟩)
  dsimp only [Pt.U, Pt.locs, Pt.cells, Pt.slots] at X' e1 e2 h1 h2 h3 st
  subst h1; subst h2; subst h3
  exact ⟨v, (T.setVm vm₁).calling g' mk As.toArray, t, U', L, hT, X', hL, e1, e2, hq, st⟩
/-- not caught here, past rows that name other classes: it goes on to the caller -/
theorem vx_outP {p : Program} {l : Launch} {e : Env} {R : Room} {s : State} {m : MethodId} {args : Array Value} {below : List Frame} {meth : Method} {c : Code} {H : Heap} {locs : List Loc} {cells slots : Nat} {free : Addr → Prop} {ls : Array Slot} {rest : List Value} {Qc : Array Value → State → Outcome → State → Prop} {XC : String → State → State → Prop}
    {pc : Nat} {own E : String} {ce : Cell} {q : Addr} {mc ms : Nat} (hown : s.vm.findClass own = some m.cls) (hlocks : meth.locks = false)
    (hpass : ∀ z ∈ c.exceptionTable.toList, covers z pc = false ∨ (z.catchType ≠ 0 ∧ ∃ nm : String, (Cond.classLink own z.catchType nm).before args s = true ∧ va_Nc E nm s)) (hcell : H[q]? = some ce) (hv : ce.vm = .none) (hcl : s.vm.findClass E = some ce.cls)
    (hx : ∀ t : State, t.heap = H → s.vm.Alike t.vm → XC E s t) (hf : ∀ z ∈ locs, free z.base) (hc : cells ≤ mc) (hs : slots ≤ ms) :
    vx_W p l e R s m args below meth c H locs cells slots (vx_MQ below Qc XC args s mc ms free) (F0 m pc ls rest) q := by
  intro T hT X
  have hpl : e.platform.magicAccessors = ({} : Platform).magicAccessors := by rw [X.admits.platform]
  obtain ⟨vm', hW', X', st⟩ := X.outThrough hlocks q (g := F0 m pc ls rest) rfl rfl rfl (cell := ce) (by rw [hT]; exact hcell) (by rw [hv]; rfl)
    (by obtain ⟨k9, h9, -⟩ := Vm.findClass_spec hcl; exact ⟨k9, h9⟩) (fun z hz => by
      rcases hpass z hz with h | ⟨hz0, nm, hl1, hn1⟩
      · exact Or.inl h
      · obtain ⟨c6, hc6, hcl6⟩ := Cond.classLink_spec hown hl1 e.platform hpl
        obtain ⟨a8, b8, h1, h2, h3⟩ := hn1
        cases Option.some.inj (h1.symm.trans hcl)
        cases Option.some.inj (h2.symm.trans hc6)
        exact Or.inr ⟨hz0, _, hcl6, h3⟩)
  obtain ⟨g₀, hfr⟩ := X'.frames_eq
  have hcell9 : ((T.setVm vm').setFrames (.throwing q :: below)).heap[q]? = some ce := by
    show T.heap[q]? = some ce
    rw [hT]; exact hcell
  have hend : Ended ((T.setVm vm').setFrames (.throwing q :: below)) below (.threw q) := State.frames_setFrames _ (State.cur_lt_of_frames hfr)
  refine ⟨(T.setVm vm').setFrames (.throwing q :: below), ?_, .threw q, X'.here.running, hend, Or.inr ⟨q, rfl, E, ce, locs, hx _ hT (X'.ends _).1.alike, hcell9, hv, hcl, (X'.ends _).1, (X'.ends _).2.mono hc hs, hf⟩⟩
  rw [X.pushThrowing_eq]
  exact st
/-- a thing of a world lies in the heap -/
theorem vx_lt {D : va_G} {cl : List vw_C} {ws : va_W} {H1 : Heap} (h : va_P D cl ws H1) {k : Nat} {q : Nat × va_E} (hk : ws[k]? = some q) : q.1 < H1.size := (h k q hk).lt
end VXS
/-! ===== END ===== -/
/-! ===== BEGIN methods with a table of their own: called by a name, returning or throwing ===== -/
section VXH
/-! vx_backW, vx_callVX, vx_callSX, vx_callVW, vx_runVW, vx_runVX, vx_runSX, vx_ofWH follow the same proofs as their sisters above (Free/Laws.lean, Shelf42/LK1.lean); vx_outP calls Shelf42/NT130.lean (outThrough). -/
section
variable {l : Launch} {R : Room} {p : Program} {e : Env} {below : List Frame} {s : State} {sargs : Array Value} {y : MethodName} {len W9 : Nat}
theorem vx_backW {ws : List Cond} {rm : Room} {Pc : Array Value → State → Prop} {Qc : Array Value → State → Outcome → State → Prop} {XC : String → State → State → Prop} {mc ms : Nat} {free : Addr → Prop} {bytes : ByteArray} {maxL : Nat} {ret : Option FieldType} {hh : List (Nat × Nat × Nat × Nat)}
    (hM : vx_Met l y ws rm Pc Qc XC mc ms free) (hblind : FrameBlind Pc) (hrc : rm.cells = mc) (hrs : rm.slots = ms)
    (hframes : rm.frames + 1 ≤ R.frames) (hlocals : W9 + (maxL + 11) + rm.locals ≤ R.locals)
    (hws : ∀ w ∈ ws, ∀ a' U, s.WarmedH U.vm → w.before a' U = true) (hcode : Cond.codeWith y bytes maxL ret hh ∈ ws) (hinit : ∀ a' U, s.WarmedH U.vm → (Cond.initialized y.cls).before a' U = true) :
    vx_Back l R p e below s sargs y len W9 (PreOf R mc ms Pc) (PostOf Qc mc ms free) (vx_Post XC mc ms free) := by
  intro m meth c A g ig mk a X hg hsize hdg hW hn hp
  have h1 : (headSpec ws rm).pre.before a A.U = true := atoms_intro fun w hw => hws w hw _ _ X.warmed
  have h2 : (Cond.codeWith y bytes maxL ret hh).before a A.U = true := hws _ hcode _ _ X.warmed
  have h3 : (Cond.initialized y.cls).before a A.U = true := hinit _ _ X.warmed
  have h4 : A.cells + (headSpec ws rm).room.cells ≤ R.cells := by rw [show (headSpec ws rm).room.cells = mc from hrc]; exact hp.1
  have h5 : A.slots + (headSpec ws rm).room.slots ≤ R.slots := by rw [show (headSpec ws rm).room.slots = ms from hrs]; exact hp.2.1
  have hPc : Pc a (A.U.calling g mk a) := hblind _ _ _ _ hp.2.2
  obtain ⟨U, Ls, c0, s0⟩ := A
  dsimp only [Pt.U, Pt.locs, Pt.cells, Pt.slots] at h1 h2 h3 h4 h5 X hn hPc ⊢
  obtain ⟨m9, methY, cY, hn9, hmY, hcY, -, hlY, -⟩ := Cond.codeWith_spec h2
  cases Option.some.inj (hn9.symm.trans hn)
  obtain ⟨kY, hkY, -⟩ := className_of_methodNamed hn
  have hinitY : kY.init = .initialized := Cond.initialized_spec (findClass_of_methodNamed hn) hkY h3
  have h : At U g.method c below := by rw [hg]; exact X.here
  have hlocals9 : W9 + (maxL + 11) + (headSpec ws rm).room.locals ≤ R.locals := hlocals
  have happ : (headSpec ws rm).appliesLoose y e.platform (U.calling g mk a) = true :=
    Spec.appliesLoose_calling (g := g) h hdg hn hkY hinitY
      (X.room_calling (g := g) (R' := (headSpec ws rm).room) hsize hmY hcY hframes (by rw [hlY]; omega) h4 h5) h1
  obtain ⟨mid, hmid⟩ := h.above
  have hfr : (U.setTop g).frames = (.java g :: mid) ++ below := by rw [State.frames_setTop' g h.top, hmid]; rfl
  obtain ⟨o, s₂, hsteps, -, hend, hq⟩ := Steps.callFree hM p X.admits X.cas X.clock (acts := []) hfr happ hPc trivial
  have hq' : vx_Q Qc XC mc ms free a (U.calling g mk a) o s₂ := hq
  rw [State.frames_setTop' g h.top] at hend
  obtain ⟨g₀, hg0⟩ := Option.isSome_iff_exists.mp h.top
  obtain ⟨r, hr⟩ := State.topJava?_eq_some.mp hg0
  have hr' : (({ U with heap := s₂.heap, slotsUsed := s₂.slotsUsed } : State).setVm s₂.vm).frames = .java g₀ :: r := hr
  rcases hq' with ⟨hqc, L, hfe, hL⟩ | ⟨q, rfl, E, ce, L, hx, hce, hcv, hcl, hW₂, hsm, hL⟩
  · obtain ⟨⟨v, rfl⟩, hW₂, e2, q2, q3, q4, q5, q6⟩ := id hfe
    have e3 : s₂ = ({ (U.calling g mk a).setFrames s₂.frames with heap := s₂.heap, slotsUsed := s₂.slotsUsed } : State).setVm s₂.vm := by
      have : s₂ = ({ s₂ with vm := (U.calling g mk a).vm } : State).setVm s₂.vm := rfl
      rw [e2] at this
      exact this
    obtain ⟨c₂, i₂, len₂, hc₂, hd₂, hf₂⟩ := hend
    have hW' : U.WarmedH s₂.vm := hW₂
    have hcc : c₂ = c := by
      have h1 : s₂.code? g.method = U.code? g.method := by
        rw [State.code?_eq, State.code?_eq, hW'.alike.method?]
      exact Option.some.inj (hc₂.symm.trans (h1.trans h.code))
    subst hcc
    have hlen : len₂ = len := by rw [hdg] at hd₂; cases hd₂; rfl
    subst hlen
    have hs₂ : s₂ = (({ U with heap := s₂.heap, slotsUsed := s₂.slotsUsed } : State).setVm s₂.vm).setTop { g with pc := g.pc + len₂, stack := v.toList ++ g.stack } := by
      refine e3.trans ?_
      rw [hf₂, State.calling_eq h.top, State.setFrames_setFrames, State.setTop_of_frames _ hr', hr]
      rfl
    have hsame : U.sameButNew ({ U with heap := s₂.heap, slotsUsed := s₂.slotsUsed } : State) L mc ms := by
      refine ⟨?_, q2, q3, q4, q5, q6⟩
      obtain ⟨t, ht, -⟩ := State.frames_cons hr
      show ({ U with heap := s₂.heap, slotsUsed := s₂.slotsUsed } : State) = { U.setFrames U.frames with heap := s₂.heap, slotsUsed := s₂.slotsUsed }
      rw [State.setFrames_self ht]
    subst hg
    refine Or.inl ⟨v, ⟨(({ U with heap := s₂.heap, slotsUsed := s₂.slotsUsed } : State).setVm s₂.vm), Ls ++ L, c0 + mc, s0 + ms⟩,
      ⟨X.admits, X.cas, X.clock, X.frames, X.room, X.hears, X.method, X.code, (X.here.setHeapUsed s₂.heap s₂.slotsUsed).setVm hW'.alike, X.tail, State.WarmedH.trans X.warmed hW', X.limits, X.bytes, X.same.trans (hsame.setVm s.vm)⟩,
      ⟨g, mk, s₂, L, rfl, rfl, hqc, rfl, hL, rfl, rfl⟩, ?_⟩
    show Steps p.tables e below _ ((({ U with heap := s₂.heap, slotsUsed := s₂.slotsUsed } : State).setVm s₂.vm).setTop { g with pc := g.pc + len₂, stack := v.toList ++ g.stack })
    rw [← hs₂]
    exact hsteps
  · obtain ⟨e2, q2, q3, q4, q5, q6⟩ := id hsm
    have e3 : s₂ = ({ (U.calling g mk a).setFrames s₂.frames with heap := s₂.heap, slotsUsed := s₂.slotsUsed } : State).setVm s₂.vm := by
      have : s₂ = ({ s₂ with vm := (U.calling g mk a).vm } : State).setVm s₂.vm := rfl
      rw [e2] at this
      exact this
    have hf₂ : s₂.frames = .throwing q :: .java g :: U.frames.tail := hend
    have hW' : U.WarmedH s₂.vm := hW₂
    have hs₂ : s₂ = ((({ U with heap := s₂.heap, slotsUsed := s₂.slotsUsed } : State).setVm s₂.vm).setTop g).pushFrame (.throwing q) := by
      refine e3.trans ?_
      rw [hf₂, State.calling_eq h.top, State.setFrames_setFrames, State.pushFrame, State.frames_setTop _ hr', State.setTop_of_frames _ hr', State.setFrames_setFrames, hr]
      rfl
    have hsame : U.sameButNew ({ U with heap := s₂.heap, slotsUsed := s₂.slotsUsed } : State) L mc ms := by
      refine ⟨?_, q2, q3, q4, q5, q6⟩
      obtain ⟨t, ht, -⟩ := State.frames_cons hr
      show ({ U with heap := s₂.heap, slotsUsed := s₂.slotsUsed } : State) = { U.setFrames U.frames with heap := s₂.heap, slotsUsed := s₂.slotsUsed }
      rw [State.setFrames_self ht]
    subst hg
    refine Or.inr ⟨q, ⟨(({ U with heap := s₂.heap, slotsUsed := s₂.slotsUsed } : State).setVm s₂.vm), Ls ++ L, c0 + mc, s0 + ms⟩,
      ⟨X.admits, X.cas, X.clock, X.frames, X.room, X.hears, X.method, X.code, (X.here.setHeapUsed s₂.heap s₂.slotsUsed).setVm hW'.alike, X.tail, State.WarmedH.trans X.warmed hW', X.limits, X.bytes, X.same.trans (hsame.setVm s.vm)⟩,
      ⟨g, mk, s₂, L, E, ce, rfl, rfl, hx, hce, hcv, hcl, rfl, hL, rfl, rfl⟩, ?_⟩
    show Steps p.tables e below _ (((({ U with heap := s₂.heap, slotsUsed := s₂.slotsUsed } : State).setVm s₂.vm).setTop g).pushFrame (.throwing q))
    rw [← hs₂]
    exact hsteps
end
variable {p : Program} {l : Launch} {e : Env} {R : Room} {s : State} {m : MethodId} {args : Array Value} {below : List Frame} {meth : Method} {c : Code} {T : State} {H : Heap} {locs : List Loc} {cells slots : Nat}
theorem vx_callVX (X : Stand p l e R s m args below meth c T locs cells slots) (hexec : p.tables.exec = Jvm.exec) {own C : String} {index : Nat} {y : MethodName} {bytes : ByteArray} {maxL : Nat} {ret : Option FieldType} {hh : List (Nat × Nat × Nat × Nat)}
    (hown : s.vm.findClass own = some m.cls) (hlink : (Cond.methodLink own index y).before args s = true) (hinst : (Cond.instanceMethod y).before args s = true) (hsel : (Cond.selects C y y).before args s = true)
    (hcode : (Cond.codeWith y bytes maxL ret hh).before args s = true) (hy : y.cls ≠ "java/lang/invoke/MethodHandle" ∧ y.cls ≠ "java/lang/invoke/VarHandle")
    {W9 : Nat} {Pre : Pt → Array Value → Prop} {Post : Pt → Array Value → Option Value → Pt → Prop} {PostX : Pt → Array Value → Addr → Pt → Prop} (hK : vx_Back l R p e below s args y 3 W9 Pre Post PostX)
    {b : Addr} {cellB : Cell} (hcell : T.heap[b]? = some cellB) (hobj : cellB.vm.isStatics = false) (hcls : s.vm.findClass C = some cellB.cls)
    {g : JFrame} (hg : g.method = m) (hsize : g.locals.size = c.maxLocals) {argsL rest : List Value} (hlen : ∀ sig, parseMethodDescriptor y.desc = some sig → argsL.length = sig.parameters.length)
    (hstack : g.stack = argsL.reverse ++ .ref b :: rest) (hW : 2 * g.monitorRoom + (rest.map fun v => v.category).sum ≤ W9) (hdg : decode c.code g.pc = .ok (.invokevirtual index, 3))
    (hpre : ∀ vm₁, s.WarmedH vm₁ → Pre ⟨T.setVm vm₁, locs, cells, slots⟩ (Value.ref b :: argsL).toArray) :
    (∃ (v : Option Value) (vm₁ : Vm) (B : Pt), s.WarmedH vm₁ ∧ Stand p l e R s m args below meth c B.U B.locs B.cells B.slots ∧ Post ⟨T.setVm vm₁, locs, cells, slots⟩ (Value.ref b :: argsL).toArray v B ∧
      ∀ target, Steps p.tables e below (B.U.setTop { g with pc := g.pc + 3, stack := v.toList ++ rest }) target → Steps p.tables e below (T.setTop g) target) ∨
    (∃ (q : Addr) (vm₁ : Vm) (B : Pt), s.WarmedH vm₁ ∧ Stand p l e R s m args below meth c B.U B.locs B.cells B.slots ∧ PostX ⟨T.setVm vm₁, locs, cells, slots⟩ (Value.ref b :: argsL).toArray q B ∧
      Steps p.tables e below (T.setTop g) ((B.U.setTop { g with stack := rest }).pushFrame (.throwing q))) := by
  obtain ⟨mk, methM, hnamed, hmethM, hstM, habM⟩ := Cond.instanceMethod_spec hinst
  obtain ⟨m8, methM', cM, hn8, hmethM', -, -, -, -, -, -, hsigM⟩ := Cond.codeWith_spec hcode
  cases Option.some.inj (hn8.symm.trans hnamed)
  cases hmethM.symm.trans hmethM'
  obtain ⟨c2, r2, m2, q1, q2, q3, q4, kP, hkP, hkPi⟩ := Cond.selects_spec hsel
  cases hcls.symm.trans q1
  cases (State.methodFound?_of_named hnamed hy).symm.trans q2
  cases hnamed.symm.trans q3
  have hselP : selectMethod e.platform s.vm cellB.cls mk = .method mk := by rw [Launch.admits_selectMethod X.admits]; exact q4
  obtain ⟨vm₁, X₁, hstep₁⟩ := X.invokevirtual hexec hown hlink hnamed hmethM hstM hkP hkPi hy (a := b) (cell := cellB) hcell
    (fun z h => by rw [h] at hobj; cases hobj) hselP hmethM habM hkP hkPi (g := g) hg (argsL := argsL) (rest := rest) (hlen _ hsigM) hstack hdg
  rcases hK m meth c ⟨T.setVm vm₁, locs, cells, slots⟩ { g with stack := rest } (.invokevirtual index) mk (Value.ref b :: argsL).toArray X₁ hg hsize hdg hW (X₁.named hnamed) (hpre vm₁ X₁.warmed) with ⟨v, B, X', hpost, hsteps⟩ | ⟨q, B, X', hpost, hsteps⟩
  · exact Or.inl ⟨v, vm₁, B, X₁.warmed, X', hpost, fun target h => hstep₁ _ fun acts => by rw [doInvoke_state]; exact hsteps.trans h⟩
  · exact Or.inr ⟨q, vm₁, B, X₁.warmed, X', hpost, hstep₁ _ fun acts => by rw [doInvoke_state]; exact hsteps⟩
theorem vx_callSX (X : Stand p l e R s m args below meth c T locs cells slots) (hexec : p.tables.exec = Jvm.exec) {own : String} {index : Nat} {y : MethodName} {bytes : ByteArray} {maxL : Nat} {ret : Option FieldType} {hh : List (Nat × Nat × Nat × Nat)}
    (hown : s.vm.findClass own = some m.cls) (hlink : (Cond.methodLink own index y).before args s = true) (hstat : (Cond.static y).before args s = true) (hinit : (Cond.initialized y.cls).before args s = true)
    (hcode : (Cond.codeWith y bytes maxL ret hh).before args s = true) (hy : y.cls ≠ "java/lang/invoke/MethodHandle" ∧ y.cls ≠ "java/lang/invoke/VarHandle")
    {W9 : Nat} {Pre : Pt → Array Value → Prop} {Post : Pt → Array Value → Option Value → Pt → Prop} {PostX : Pt → Array Value → Addr → Pt → Prop} (hK : vx_Back l R p e below s args y 3 W9 Pre Post PostX)
    {g : JFrame} (hg : g.method = m) (hsize : g.locals.size = c.maxLocals) {argsL rest : List Value} (hlen : ∀ sig, parseMethodDescriptor y.desc = some sig → argsL.length = sig.parameters.length)
    (hstack : g.stack = argsL.reverse ++ rest) (hW : 2 * g.monitorRoom + (rest.map fun v => v.category).sum ≤ W9) (hdg : decode c.code g.pc = .ok (.invokestatic index, 3))
    (hpre : ∀ vm₁, s.WarmedH vm₁ → Pre ⟨T.setVm vm₁, locs, cells, slots⟩ argsL.toArray) :
    (∃ (v : Option Value) (vm₁ : Vm) (B : Pt), s.WarmedH vm₁ ∧ Stand p l e R s m args below meth c B.U B.locs B.cells B.slots ∧ Post ⟨T.setVm vm₁, locs, cells, slots⟩ argsL.toArray v B ∧
      ∀ target, Steps p.tables e below (B.U.setTop { g with pc := g.pc + 3, stack := v.toList ++ rest }) target → Steps p.tables e below (T.setTop g) target) ∨
    (∃ (q : Addr) (vm₁ : Vm) (B : Pt), s.WarmedH vm₁ ∧ Stand p l e R s m args below meth c B.U B.locs B.cells B.slots ∧ PostX ⟨T.setVm vm₁, locs, cells, slots⟩ argsL.toArray q B ∧
      Steps p.tables e below (T.setTop g) ((B.U.setTop { g with stack := rest }).pushFrame (.throwing q))) := by
  obtain ⟨mk, methM, cM, hnamed, hmethM, -, -, -, -, -, -, hsigM⟩ := Cond.codeWith_spec hcode
  have hstatic : methM.isStatic = true := Cond.static_spec hnamed hmethM hstat
  obtain ⟨kP, hkP, -⟩ := className_of_methodNamed hnamed
  have hinitP : kP.init = .initialized := Cond.initialized_spec (findClass_of_methodNamed hnamed) hkP hinit
  obtain ⟨vm₁, X₁, hstep₁⟩ := X.invokestatic hexec hown hlink hnamed hmethM hstatic hkP hinitP hy (g := g) hg (argsL := argsL) (rest := rest) (hlen _ hsigM) hstack hdg
  rcases hK m meth c ⟨T.setVm vm₁, locs, cells, slots⟩ { g with stack := rest } (.invokestatic index) mk argsL.toArray X₁ hg hsize hdg hW (X₁.named hnamed) (hpre vm₁ X₁.warmed) with ⟨v, B, X', hpost, hsteps⟩ | ⟨q, B, X', hpost, hsteps⟩
  · exact Or.inl ⟨v, vm₁, B, X₁.warmed, X', hpost, fun target h => hstep₁ _ fun acts => by rw [doInvoke_state]; exact hsteps.trans h⟩
  · exact Or.inr ⟨q, vm₁, B, X₁.warmed, X', hpost, hstep₁ _ fun acts => by rw [doInvoke_state]; exact hsteps⟩
theorem vx_callVW (X : Stand p l e R s m args below meth c T locs cells slots) (hexec : p.tables.exec = Jvm.exec) {own C : String} {index : Nat} {y : MethodName} {bytes : ByteArray} {maxL : Nat} {ret : Option FieldType} {hh : List (Nat × Nat × Nat × Nat)}
    (hown : s.vm.findClass own = some m.cls) (hlink : (Cond.methodLink own index y).before args s = true) (hinst : (Cond.instanceMethod y).before args s = true) (hsel : (Cond.selects C y y).before args s = true)
    (hcode : (Cond.codeWith y bytes maxL ret hh).before args s = true) (hy : y.cls ≠ "java/lang/invoke/MethodHandle" ∧ y.cls ≠ "java/lang/invoke/VarHandle")
    {W9 : Nat} {Pre : Pt → Array Value → Prop} {Post : Pt → Array Value → Option Value → Pt → Prop} (hK : Back l R p e below s args y 3 W9 Pre Post)
    {b : Addr} {cellB : Cell} (hcell : T.heap[b]? = some cellB) (hobj : cellB.vm.isStatics = false) (hcls : s.vm.findClass C = some cellB.cls)
    {g : JFrame} (hg : g.method = m) (hsize : g.locals.size = c.maxLocals) {argsL rest : List Value} (hlen : ∀ sig, parseMethodDescriptor y.desc = some sig → argsL.length = sig.parameters.length)
    (hstack : g.stack = argsL.reverse ++ .ref b :: rest) (hW : 2 * g.monitorRoom + (rest.map fun v => v.category).sum ≤ W9) (hdg : decode c.code g.pc = .ok (.invokevirtual index, 3))
    (hpre : ∀ vm₁, s.WarmedH vm₁ → Pre ⟨T.setVm vm₁, locs, cells, slots⟩ (Value.ref b :: argsL).toArray) :
    ∃ (v : Option Value) (vm₁ : Vm) (B : Pt), s.WarmedH vm₁ ∧ Stand p l e R s m args below meth c B.U B.locs B.cells B.slots ∧ Post ⟨T.setVm vm₁, locs, cells, slots⟩ (Value.ref b :: argsL).toArray v B ∧
      ∀ target, Steps p.tables e below (B.U.setTop { g with pc := g.pc + 3, stack := v.toList ++ rest }) target → Steps p.tables e below (T.setTop g) target := by
  obtain ⟨mk, methM, hnamed, hmethM, hstM, habM⟩ := Cond.instanceMethod_spec hinst
  obtain ⟨m8, methM', cM, hn8, hmethM', -, -, -, -, -, -, hsigM⟩ := Cond.codeWith_spec hcode
  cases Option.some.inj (hn8.symm.trans hnamed)
  cases hmethM.symm.trans hmethM'
  obtain ⟨c2, r2, m2, q1, q2, q3, q4, kP, hkP, hkPi⟩ := Cond.selects_spec hsel
  cases hcls.symm.trans q1
  cases (State.methodFound?_of_named hnamed hy).symm.trans q2
  cases hnamed.symm.trans q3
  have hselP : selectMethod e.platform s.vm cellB.cls mk = .method mk := by rw [Launch.admits_selectMethod X.admits]; exact q4
  obtain ⟨vm₁, X₁, hstep₁⟩ := X.invokevirtual hexec hown hlink hnamed hmethM hstM hkP hkPi hy (a := b) (cell := cellB) hcell
    (fun z h => by rw [h] at hobj; cases hobj) hselP hmethM habM hkP hkPi (g := g) hg (argsL := argsL) (rest := rest) (hlen _ hsigM) hstack hdg
  obtain ⟨v, B, X', hpost, hsteps⟩ := hK m meth c ⟨T.setVm vm₁, locs, cells, slots⟩ { g with stack := rest } (.invokevirtual index) mk (Value.ref b :: argsL).toArray X₁ hg hsize hdg hW (X₁.named hnamed) (hpre vm₁ X₁.warmed)
  exact ⟨v, vm₁, B, X₁.warmed, X', hpost, fun target h => hstep₁ _ fun acts => by rw [doInvoke_state]; exact hsteps.trans h⟩
abbrev vx_CVW (R : Room) (s : State) (args : Array Value) (own C : String) (index : Nat) (y : MethodName) (bytes : ByteArray) (maxL : Nat) (ret : Option FieldType) (hh : List (Nat × Nat × Nat × Nat)) (ws : List Cond) (rm : Room) (mc ms n : Nat) : Prop :=
  (rm.cells = mc ∧ rm.slots = ms ∧ rm.frames + 1 ≤ R.frames ∧ 8 + (maxL + 11) + rm.locals ≤ R.locals ∧ (∀ w ∈ ws, ∀ (a' : Array Value) (U : State), s.WarmedH U.vm → w.before a' U = true) ∧ Cond.codeWith y bytes maxL ret hh ∈ ws) ∧
  (Cond.codeWith y bytes maxL ret hh).before args s = true ∧ (Cond.initialized y.cls).before args s = true ∧ (y.cls ≠ "java/lang/invoke/MethodHandle" ∧ y.cls ≠ "java/lang/invoke/VarHandle") ∧
  (∀ sig, parseMethodDescriptor y.desc = some sig → n = sig.parameters.length) ∧ (Cond.methodLink own index y).before args s = true ∧ (Cond.instanceMethod y).before args s = true ∧ (Cond.selects C y y).before args s = true
theorem vx_cwVW {own C : String} {index maxL mc ms : Nat} {y : MethodName} {bytes : ByteArray} {ret : Option FieldType} {hh : List (Nat × Nat × Nat × Nat)} {Ts ws ws' : List Cond} {rm : Room} (n : Nat) (ht : ∀ w ∈ Ts, w.before args s = true) (hT : GoodIn Ts (wsV own index C y ws)) (hw : ws = Cond.codeWith y bytes maxL ret hh :: ws') (hrc : rm.cells = mc) (hrs : rm.slots = ms)
    (hd : y.cls = C ∧ y.cls ≠ "java/lang/invoke/MethodHandle" ∧ y.cls ≠ "java/lang/invoke/VarHandle" ∧ (parseMethodDescriptor y.desc).map (fun d => d.parameters.length) = some n) (hR : rm.frames + 1 ≤ R.frames ∧ 8 + (maxL + 11) + rm.locals ≤ R.locals) :
    vx_CVW R s args own C index y bytes maxL ret hh ws rm mc ms n := by
  obtain ⟨hC, hd⟩ := hd
  subst hC
  have ok : ∀ w ∈ wsV own index y.cls y ws, w.before args s = true := fun w h => ht w (hT w h).1
  have hG : GoodIn Ts ws := fun w h => hT w (by unfold wsV; exact List.mem_append_right _ h)
  have hc : Cond.codeWith y bytes maxL ret hh ∈ ws := by rw [hw]; exact List.mem_cons_self
  refine ⟨⟨hrc, hrs, hR.1, hR.2, pay_in ht hG, hc⟩, ht _ (hG _ hc).1, ok _ (by simp [wsV]), ⟨hd.1, hd.2.1⟩, fun sig h => ?_, ok _ (by simp [wsV]), ok _ (by simp [wsV]), ok _ (by simp [wsV])⟩
  have h2 := hd.2.2
  rw [h] at h2
  exact (Option.some.inj h2).symm
theorem vx_runVW {y : MethodName} {bytes cc : ByteArray} {maxL nL mc ms n index : Nat} {ret : Option FieldType} {hh : List (Nat × Nat × Nat × Nat)} {ws : List Cond} {rm : Room} {Pc : Array Value → State → Prop} {Qc : Array Value → State → Outcome → State → Prop} {free : Addr → Prop} {Ts : List Cond} {own C : String} {b : Addr} {As rest : List Value} {g : JFrame}
    (S : CallFix p m c cc nL s args Ts own) (hM : Met l y ws rm Pc Qc mc ms free) (cw : vx_CVW R s args own C index y bytes maxL ret hh ws rm mc ms n) (hp : PreV s H C b Pc As)
    (hg : g.method = m) (hn : As.length = n) (hsize : g.locals.size = nL) (hstack : g.stack = As.reverse ++ .ref b :: rest) (hW : 2 * g.monitorRoom + (rest.map fun v => v.category).sum ≤ 8) (hdg : decode cc g.pc = .ok (.invokevirtual index, 3)) (hf : cells + mc ≤ R.cells ∧ slots + ms ≤ R.slots) :
    va_Run p l e R s m args below meth c H locs cells slots mc ms g rest (Qc (Value.ref b :: As).toArray) free := by
  obtain ⟨⟨hrc, hrs, hfr, hlo, hws, hcw⟩, hcode, hini, hy, hlen, hl, hin, hse⟩ := cw
  have hK : Back l R p e below s args y 3 8 (PreOf R mc ms Pc) (PostOf Qc mc ms free) := va_backW (hh := hh) (bytes := bytes) (maxL := maxL) (ret := ret) hM hp.1 hrc hrs hfr hlo hws hcw (fun a' U hW => word_at hW (Or.inl (by first | rfl | simp [Cond.onTables, Cond.keeps, Cond.steady])) hini)
  obtain ⟨hx, hb, hml, ho, -⟩ := S
  obtain ⟨-, ⟨cellB, hcB, hoB, hclB⟩, hPc⟩ := hp
  intro T hT X
  obtain ⟨v, vm₁, ⟨U', l2, c2, s2⟩, hW₁, X', ⟨g', mk, t, L, e1, e2, hq, h1, hL, h2, h3⟩, st⟩ := vx_callVW X hx (C := C) (hh := hh) (bytes := bytes) (maxL := maxL) (ret := ret) ho hl hin hse hcode hy hK (by rw [hT]; exact hcB) hoB hclB hg (hsize.trans hml.symm) (argsL := As) (rest := rest) (fun sig h => hn.trans (hlen sig h)) hstack hW (by rw [hb]; exact hdg)
    (fun vm₁ hW₁ => ⟨hf.1, hf.2, hPc (T.setVm vm₁) hT hW₁⟩)
  dsimp only [Pt.U, Pt.locs, Pt.cells, Pt.slots] at X' e1 e2 h1 h2 h3 st
  subst h1; subst h2; subst h3
  exact ⟨v, (T.setVm vm₁).calling g' mk (Value.ref b :: As).toArray, t, U', L, hT, X', hL, e1, e2, hq, st⟩
section
variable {y : MethodName} {bytes cc : ByteArray} {maxL nL mc ms n index : Nat} {ret : Option FieldType} {ws : List Cond} {rm : Room} {Pc : Array Value → State → Prop} {Qc : Array Value → State → Outcome → State → Prop} {XC : String → State → State → Prop} {free : Addr → Prop} {Ts : List Cond} {own C : String} {b : Addr} {As rest : List Value} {g : JFrame}
theorem vx_runVX {hh : List (Nat × Nat × Nat × Nat)} (S : CallFix p m c cc nL s args Ts own) (hM : vx_Met l y ws rm Pc Qc XC mc ms free) (cw : vx_CVW R s args own C index y bytes maxL ret hh ws rm mc ms n) (hp : PreV s H C b Pc As)
    (hg : g.method = m) (hn : As.length = n) (hsize : g.locals.size = nL) (hstack : g.stack = As.reverse ++ .ref b :: rest) (hW : 2 * g.monitorRoom + (rest.map fun v => v.category).sum ≤ 8) (hdg : decode cc g.pc = .ok (.invokevirtual index, 3)) (hf : cells + mc ≤ R.cells ∧ slots + ms ≤ R.slots) :
    vx_Run p l e R s m args below meth c H locs cells slots mc ms g rest (Qc (Value.ref b :: As).toArray) XC free := by
  obtain ⟨⟨hrc, hrs, hfr, hlo, hws, hcw⟩, hcode, hini, hy, hlen, hl, hin, hse⟩ := cw
  have hK : vx_Back l R p e below s args y 3 8 (PreOf R mc ms Pc) (PostOf Qc mc ms free) (vx_Post XC mc ms free) := vx_backW (hh := hh) (bytes := bytes) (maxL := maxL) (ret := ret) hM hp.1 hrc hrs hfr hlo hws hcw (fun a' U hW => word_at hW (Or.inl (by first | rfl | simp [Cond.onTables, Cond.keeps, Cond.steady])) hini)
  obtain ⟨hx, hb, hml, ho, -⟩ := S
  obtain ⟨-, ⟨cellB, hcB, hoB, hclB⟩, hPc⟩ := hp
  intro T hT X
  rcases vx_callVX X hx (C := C) (hh := hh) (bytes := bytes) (maxL := maxL) (ret := ret) ho hl hin hse hcode hy hK (by rw [hT]; exact hcB) hoB hclB hg (hsize.trans hml.symm) (argsL := As) (rest := rest) (fun sig h => hn.trans (hlen sig h)) hstack hW (by rw [hb]; exact hdg)
    (fun vm₁ hW₁ => ⟨hf.1, hf.2, hPc (T.setVm vm₁) hT hW₁⟩) with ⟨v, vm₁, ⟨U', l2, c2, s2⟩, hW₁, X', ⟨g', mk, t, L, e1, e2, hq, h1, hL, h2, h3⟩, st⟩ | ⟨q, vm₁, ⟨U', l2, c2, s2⟩, hW₁, X', ⟨g', mk, t, L, E, ce, e1, e2, hq, hce, hcv, hcl, h1, hL, h2, h3⟩, st⟩
  · dsimp only [Pt.U, Pt.locs, Pt.cells, Pt.slots] at X' e1 e2 h1 h2 h3 st
    subst h1; subst h2; subst h3
    exact Or.inl ⟨v, (T.setVm vm₁).calling g' mk (Value.ref b :: As).toArray, t, U', L, hT, X', hL, e1, e2, hq, st⟩
  · dsimp only [Pt.U, Pt.locs, Pt.cells, Pt.slots] at X' e1 e2 h1 h2 h3 st hcl
    subst h1; subst h2; subst h3
    exact Or.inr ⟨q, (T.setVm vm₁).calling g' mk (Value.ref b :: As).toArray, t, U', L, E, ce, hT, X', hL, e1, e2, hq, hce, hcv, vx_cls hW₁ hcl, st⟩
theorem vx_runSX {hh : List (Nat × Nat × Nat × Nat)} (S : CallFix p m c cc nL s args Ts own) (hM : vx_Met l y ws rm Pc Qc XC mc ms free) (cw : vx_CSW R s args own index y bytes maxL ret hh ws rm mc ms n) (hp : PreS s H Pc As)
    (hg : g.method = m) (hn : As.length = n) (hsize : g.locals.size = nL) (hstack : g.stack = As.reverse ++ rest) (hW : 2 * g.monitorRoom + (rest.map fun v => v.category).sum ≤ 8) (hdg : decode cc g.pc = .ok (.invokestatic index, 3)) (hf : cells + mc ≤ R.cells ∧ slots + ms ≤ R.slots) :
    vx_Run p l e R s m args below meth c H locs cells slots mc ms g rest (Qc As.toArray) XC free := by
  obtain ⟨⟨hrc, hrs, hfr, hlo, hws, hcw⟩, hcode, hini, hy, hlen, hl, hstt⟩ := cw
  have hK : vx_Back l R p e below s args y 3 8 (PreOf R mc ms Pc) (PostOf Qc mc ms free) (vx_Post XC mc ms free) := vx_backW (hh := hh) (bytes := bytes) (maxL := maxL) (ret := ret) hM hp.1 hrc hrs hfr hlo hws hcw (fun a' U hW => word_at hW (Or.inl (by first | rfl | simp [Cond.onTables, Cond.keeps, Cond.steady])) hini)
  obtain ⟨hx, hb, hml, ho, -⟩ := S
  intro T hT X
  rcases vx_callSX X hx (hh := hh) (bytes := bytes) (maxL := maxL) (ret := ret) ho hl hstt hini hcode hy hK hg (hsize.trans hml.symm) (argsL := As) (rest := rest) (fun sig h => hn.trans (hlen sig h)) hstack hW (by rw [hb]; exact hdg)
    (fun vm₁ hW₁ => ⟨hf.1, hf.2, hp.2 (T.setVm vm₁) hT hW₁⟩) with ⟨v, vm₁, ⟨U', l2, c2, s2⟩, hW₁, X', ⟨g', mk, t, L, e1, e2, hq, h1, hL, h2, h3⟩, st⟩ | ⟨q, vm₁, ⟨U', l2, c2, s2⟩, hW₁, X', ⟨g', mk, t, L, E, ce, e1, e2, hq, hce, hcv, hcl, h1, hL, h2, h3⟩, st⟩
  · dsimp only [Pt.U, Pt.locs, Pt.cells, Pt.slots] at X' e1 e2 h1 h2 h3 st
    subst h1; subst h2; subst h3
    exact Or.inl ⟨v, (T.setVm vm₁).calling g' mk As.toArray, t, U', L, hT, X', hL, e1, e2, hq, st⟩
  · dsimp only [Pt.U, Pt.locs, Pt.cells, Pt.slots] at X' e1 e2 h1 h2 h3 st hcl
    subst h1; subst h2; subst h3
    exact Or.inr ⟨q, (T.setVm vm₁).calling g' mk As.toArray, t, U', L, E, ce, hT, X', hL, e1, e2, hq, hce, hcv, vx_cls hW₁ hcl, st⟩
end
end VXH
theorem vx_ofWH {l : Launch} {y : MethodName} {ws ws' : List Cond} {rm : Room} {Pc : Array Value → State → Prop} {Qc : Array Value → State → Outcome → State → Prop} {XC : String → State → State → Prop} {mc ms : Nat} {free : Addr → Prop} {cc : ByteArray} {maxL : Nat} {ret : Option FieldType} {hh : List (Nat × Nat × Nat × Nat)}
    (hy : plainName y.cls = true) (hw : ws = Cond.codeWith y cc maxL ret hh :: ws')
    (body : ∀ p e s m args below meth c s₁, BodyLoose p l y (headSpec ws rm) cc maxL ret e s m args below meth c s₁ → c.maxLocals = maxL → Pc args s →
      W p l e (headSpec ws rm).room s m args below meth c s.heap [] 0 0 (vx_MQ below Qc XC args s mc ms free) (entryFrame m args maxL)) : vx_Met l y ws rm Pc Qc XC mc ms free := by
  refine MetFree.of_bodyS (code := cc) (maxLocals := maxL) (ret := ret) hy ?_ ?_
  · intro args s m h hn
    obtain ⟨m9, meth, c, hn9, h1, h2, h3, h4, -, h5, h6, -⟩ := Cond.codeWith_spec (atoms_spec (ws := ws) h _ (by rw [hw]; exact List.mem_cons_self))
    cases hn.symm.trans hn9
    exact ⟨meth, c, h1, h2, h3, h4, h5, h6⟩
  · intro p e s m args below meth c s₁ B hml hP _
    have hh0 : s₁.heap = s.heap := by rw [B.state]; rfl
    obtain ⟨t, a1, o, b1, b2, b3⟩ := body p e s m args below meth c s₁ B hml hP s₁ hh0 (Stand.of_body B)
    exact ⟨t, o, a1, b1, b2, b3⟩
/-! ===== END ===== -/
end
section
-- ===== PART A: goes FIRST, ahead of the names: the tables' words, and 'selects' of the private methods out of them =====
/-- a private method of a class that the tables say can be made, by its rows of tables_1 -/
def lw_okq (q : MethodName × Nat) : Prop := (q.1.cls ≠ "java/lang/invoke/MethodHandle" ∧ q.1.cls ≠ "java/lang/invoke/VarHandle") ∧ Cond.instantiable q.1.cls q.2 ∈ tables_1 ∧ Cond.privateMethod q.1 ∈ tables_1 ∧ Cond.instanceMethod q.1 ∈ tables_1
theorem lw_p0 : lw_okq (⟨"RejudgeHall$Entry", "waits", "()Z"⟩, 8) := ⟨⟨by decide +kernel, by decide +kernel⟩, List.mem_of_getElem? (i := 214) (by decide +kernel), List.mem_of_getElem? (i := 212) (by decide +kernel), List.mem_of_getElem? (i := 213) (by decide +kernel)⟩
theorem lw_p1 : lw_okq (⟨"RejudgeHall", "giveVerdict", "(LRejudgeHall$Entry;)V"⟩, 12) := ⟨⟨by decide +kernel, by decide +kernel⟩, List.mem_of_getElem? (i := 26) (by decide +kernel), List.mem_of_getElem? (i := 217) (by decide +kernel), List.mem_of_getElem? (i := 218) (by decide +kernel)⟩
theorem lw_p2 : lw_okq (⟨"RejudgeHall", "tryOut", "(LRejudgeHall$Entry;LRejudgeHall$Trial;)I"⟩, 12) := ⟨⟨by decide +kernel, by decide +kernel⟩, List.mem_of_getElem? (i := 26) (by decide +kernel), List.mem_of_getElem? (i := 222) (by decide +kernel), List.mem_of_getElem? (i := 223) (by decide +kernel)⟩
theorem lw_p3 : lw_okq (⟨"RejudgeHall$Machine", "execute", "(LRejudgeHall$Program;LRejudgeHall$Row;I)I"⟩, 5) := ⟨⟨by decide +kernel, by decide +kernel⟩, List.mem_of_getElem? (i := 70) (by decide +kernel), List.mem_of_getElem? (i := 226) (by decide +kernel), List.mem_of_getElem? (i := 227) (by decide +kernel)⟩
theorem lw_p4 : lw_okq (⟨"RejudgeHall$Machine", "step", "(LRejudgeHall$Program;LRejudgeHall$Row;)I"⟩, 5) := ⟨⟨by decide +kernel, by decide +kernel⟩, List.mem_of_getElem? (i := 70) (by decide +kernel), List.mem_of_getElem? (i := 230) (by decide +kernel), List.mem_of_getElem? (i := 231) (by decide +kernel)⟩
theorem lw_p5 : lw_okq (⟨"RejudgeHall$Program", "has", "(I)Z"⟩, 3) := ⟨⟨by decide +kernel, by decide +kernel⟩, List.mem_of_getElem? (i := 34) (by decide +kernel), List.mem_of_getElem? (i := 234) (by decide +kernel), List.mem_of_getElem? (i := 235) (by decide +kernel)⟩
theorem lw_p6 : lw_okq (⟨"RejudgeHall$Row", "at", "(I)I"⟩, 2) := ⟨⟨by decide +kernel, by decide +kernel⟩, List.mem_of_getElem? (i := 55) (by decide +kernel), List.mem_of_getElem? (i := 238) (by decide +kernel), List.mem_of_getElem? (i := 239) (by decide +kernel)⟩
theorem lw_p7 : lw_okq (⟨"RejudgeHall$Machine", "put", "(I)I"⟩, 5) := ⟨⟨by decide +kernel, by decide +kernel⟩, List.mem_of_getElem? (i := 70) (by decide +kernel), List.mem_of_getElem? (i := 242) (by decide +kernel), List.mem_of_getElem? (i := 243) (by decide +kernel)⟩
theorem lw_p8 : lw_okq (⟨"RejudgeHall$Row", "isFull", "()Z"⟩, 2) := ⟨⟨by decide +kernel, by decide +kernel⟩, List.mem_of_getElem? (i := 55) (by decide +kernel), List.mem_of_getElem? (i := 246) (by decide +kernel), List.mem_of_getElem? (i := 247) (by decide +kernel)⟩
theorem lw_p9 : lw_okq (⟨"RejudgeHall$Row", "push", "(I)V"⟩, 2) := ⟨⟨by decide +kernel, by decide +kernel⟩, List.mem_of_getElem? (i := 55) (by decide +kernel), List.mem_of_getElem? (i := 250) (by decide +kernel), List.mem_of_getElem? (i := 251) (by decide +kernel)⟩
theorem lw_p10 : lw_okq (⟨"RejudgeHall$Machine", "make", "(I)I"⟩, 5) := ⟨⟨by decide +kernel, by decide +kernel⟩, List.mem_of_getElem? (i := 70) (by decide +kernel), List.mem_of_getElem? (i := 254) (by decide +kernel), List.mem_of_getElem? (i := 255) (by decide +kernel)⟩
theorem lw_p11 : lw_okq (⟨"RejudgeHall$Row", "pop", "()I"⟩, 2) := ⟨⟨by decide +kernel, by decide +kernel⟩, List.mem_of_getElem? (i := 55) (by decide +kernel), List.mem_of_getElem? (i := 258) (by decide +kernel), List.mem_of_getElem? (i := 259) (by decide +kernel)⟩
theorem lw_p12 : lw_okq (⟨"RejudgeHall$Machine", "swap", "()I"⟩, 5) := ⟨⟨by decide +kernel, by decide +kernel⟩, List.mem_of_getElem? (i := 70) (by decide +kernel), List.mem_of_getElem? (i := 264) (by decide +kernel), List.mem_of_getElem? (i := 265) (by decide +kernel)⟩
theorem lw_p13 : lw_okq (⟨"RejudgeHall$Machine", "goIfZero", "(II)I"⟩, 5) := ⟨⟨by decide +kernel, by decide +kernel⟩, List.mem_of_getElem? (i := 70) (by decide +kernel), List.mem_of_getElem? (i := 268) (by decide +kernel), List.mem_of_getElem? (i := 269) (by decide +kernel)⟩
theorem lw_p14 : lw_okq (⟨"RejudgeHall$Machine", "goTo", "(II)I"⟩, 5) := ⟨⟨by decide +kernel, by decide +kernel⟩, List.mem_of_getElem? (i := 70) (by decide +kernel), List.mem_of_getElem? (i := 272) (by decide +kernel), List.mem_of_getElem? (i := 273) (by decide +kernel)⟩
theorem lw_p15 : lw_okq (⟨"RejudgeHall$Machine", "print", "()I"⟩, 5) := ⟨⟨by decide +kernel, by decide +kernel⟩, List.mem_of_getElem? (i := 70) (by decide +kernel), List.mem_of_getElem? (i := 276) (by decide +kernel), List.mem_of_getElem? (i := 277) (by decide +kernel)⟩
def lw_privs_1 : List (MethodName × Nat) := [(⟨"RejudgeHall$Entry", "waits", "()Z"⟩, 8), (⟨"RejudgeHall", "giveVerdict", "(LRejudgeHall$Entry;)V"⟩, 12), (⟨"RejudgeHall", "tryOut", "(LRejudgeHall$Entry;LRejudgeHall$Trial;)I"⟩, 12), (⟨"RejudgeHall$Machine", "execute", "(LRejudgeHall$Program;LRejudgeHall$Row;I)I"⟩, 5), (⟨"RejudgeHall$Machine", "step", "(LRejudgeHall$Program;LRejudgeHall$Row;)I"⟩, 5), (⟨"RejudgeHall$Program", "has", "(I)Z"⟩, 3), (⟨"RejudgeHall$Row", "at", "(I)I"⟩, 2), (⟨"RejudgeHall$Machine", "put", "(I)I"⟩, 5), (⟨"RejudgeHall$Row", "isFull", "()Z"⟩, 2), (⟨"RejudgeHall$Row", "push", "(I)V"⟩, 2), (⟨"RejudgeHall$Machine", "make", "(I)I"⟩, 5), (⟨"RejudgeHall$Row", "pop", "()I"⟩, 2), (⟨"RejudgeHall$Machine", "swap", "()I"⟩, 5), (⟨"RejudgeHall$Machine", "goIfZero", "(II)I"⟩, 5), (⟨"RejudgeHall$Machine", "goTo", "(II)I"⟩, 5), (⟨"RejudgeHall$Machine", "print", "()I"⟩, 5)]
theorem lw_r1 : ∀ q ∈ lw_privs_1, lw_okq q := List.forall_mem_cons.mpr ⟨lw_p0, List.forall_mem_cons.mpr ⟨lw_p1, List.forall_mem_cons.mpr ⟨lw_p2, List.forall_mem_cons.mpr ⟨lw_p3, List.forall_mem_cons.mpr ⟨lw_p4, List.forall_mem_cons.mpr ⟨lw_p5, List.forall_mem_cons.mpr ⟨lw_p6, List.forall_mem_cons.mpr ⟨lw_p7, List.forall_mem_cons.mpr ⟨lw_p8, List.forall_mem_cons.mpr ⟨lw_p9, List.forall_mem_cons.mpr ⟨lw_p10, List.forall_mem_cons.mpr ⟨lw_p11, List.forall_mem_cons.mpr ⟨lw_p12, List.forall_mem_cons.mpr ⟨lw_p13, List.forall_mem_cons.mpr ⟨lw_p14, List.forall_mem_cons.mpr ⟨lw_p15, fun _ h => absurd h List.not_mem_nil⟩⟩⟩⟩⟩⟩⟩⟩⟩⟩⟩⟩⟩⟩⟩⟩
theorem lw_p16 : lw_okq (⟨"RejudgeHall$Row", "isWithin", "(ILRejudgeHall$Row;)Z"⟩, 2) := ⟨⟨by decide +kernel, by decide +kernel⟩, List.mem_of_getElem? (i := 55) (by decide +kernel), List.mem_of_getElem? (i := 280) (by decide +kernel), List.mem_of_getElem? (i := 281) (by decide +kernel)⟩
theorem lw_p17 : lw_okq (⟨"RejudgeHall$Problem", "pointsOf", "(I)I"⟩, 7) := ⟨⟨by decide +kernel, by decide +kernel⟩, List.mem_of_getElem? (i := 290) (by decide +kernel), List.mem_of_getElem? (i := 288) (by decide +kernel), List.mem_of_getElem? (i := 289) (by decide +kernel)⟩
theorem lw_p18 : lw_okq (⟨"RejudgeHall", "countVerdicts", "(Z)V"⟩, 12) := ⟨⟨by decide +kernel, by decide +kernel⟩, List.mem_of_getElem? (i := 26) (by decide +kernel), List.mem_of_getElem? (i := 297) (by decide +kernel), List.mem_of_getElem? (i := 298) (by decide +kernel)⟩
theorem lw_p19 : lw_okq (⟨"RejudgeHall$Standings", "wipe", "()V"⟩, 5) := ⟨⟨by decide +kernel, by decide +kernel⟩, List.mem_of_getElem? (i := 122) (by decide +kernel), List.mem_of_getElem? (i := 301) (by decide +kernel), List.mem_of_getElem? (i := 302) (by decide +kernel)⟩
theorem lw_p20 : lw_okq (⟨"RejudgeHall", "isHidden", "(LRejudgeHall$Entry;)Z"⟩, 12) := ⟨⟨by decide +kernel, by decide +kernel⟩, List.mem_of_getElem? (i := 26) (by decide +kernel), List.mem_of_getElem? (i := 308) (by decide +kernel), List.mem_of_getElem? (i := 309) (by decide +kernel)⟩
theorem lw_p21 : lw_okq (⟨"RejudgeHall", "isLate", "(LRejudgeHall$Entry;)Z"⟩, 12) := ⟨⟨by decide +kernel, by decide +kernel⟩, List.mem_of_getElem? (i := 26) (by decide +kernel), List.mem_of_getElem? (i := 312) (by decide +kernel), List.mem_of_getElem? (i := 313) (by decide +kernel)⟩
theorem lw_p22 : lw_okq (⟨"RejudgeHall$Standings", "count", "(LRejudgeHall$Entry;Z)V"⟩, 5) := ⟨⟨by decide +kernel, by decide +kernel⟩, List.mem_of_getElem? (i := 122) (by decide +kernel), List.mem_of_getElem? (i := 319) (by decide +kernel), List.mem_of_getElem? (i := 320) (by decide +kernel)⟩
theorem lw_p23 : lw_okq (⟨"RejudgeHall", "lowestHidden", "(I)I"⟩, 12) := ⟨⟨by decide +kernel, by decide +kernel⟩, List.mem_of_getElem? (i := 26) (by decide +kernel), List.mem_of_getElem? (i := 327) (by decide +kernel), List.mem_of_getElem? (i := 328) (by decide +kernel)⟩
theorem lw_p24 : lw_okq (⟨"RejudgeHall$Standings", "isAhead", "(II)Z"⟩, 5) := ⟨⟨by decide +kernel, by decide +kernel⟩, List.mem_of_getElem? (i := 122) (by decide +kernel), List.mem_of_getElem? (i := 334) (by decide +kernel), List.mem_of_getElem? (i := 335) (by decide +kernel)⟩
theorem lw_p25 : lw_okq (⟨"java/lang/Throwable", "fillInStackTrace", "(I)Ljava/lang/Throwable;"⟩, 6) := ⟨⟨by decide +kernel, by decide +kernel⟩, List.mem_of_getElem? (i := 388) (by decide +kernel), List.mem_of_getElem? (i := 386) (by decide +kernel), List.mem_of_getElem? (i := 387) (by decide +kernel)⟩
theorem lw_p26 : lw_okq (⟨"RejudgeHall$Program", "append", "(II)V"⟩, 3) := ⟨⟨by decide +kernel, by decide +kernel⟩, List.mem_of_getElem? (i := 34) (by decide +kernel), List.mem_of_getElem? (i := 434) (by decide +kernel), List.mem_of_getElem? (i := 435) (by decide +kernel)⟩
theorem lw_p27 : lw_okq (⟨"RejudgeHall$Program", "takeFrom", "(LRejudgeHall$Program;)V"⟩, 3) := ⟨⟨by decide +kernel, by decide +kernel⟩, List.mem_of_getElem? (i := 34) (by decide +kernel), List.mem_of_getElem? (i := 503) (by decide +kernel), List.mem_of_getElem? (i := 504) (by decide +kernel)⟩
theorem lw_p28 : lw_okq (⟨"java/util/ArrayList", "add", "(Ljava/lang/Object;[Ljava/lang/Object;I)V"⟩, 3) := ⟨⟨by decide +kernel, by decide +kernel⟩, List.mem_of_getElem? (i := 96) (by decide +kernel), List.mem_of_getElem? (i := 514) (by decide +kernel), List.mem_of_getElem? (i := 515) (by decide +kernel)⟩
theorem lw_p29 : lw_okq (⟨"java/util/ArrayList", "grow", "()[Ljava/lang/Object;"⟩, 3) := ⟨⟨by decide +kernel, by decide +kernel⟩, List.mem_of_getElem? (i := 96) (by decide +kernel), List.mem_of_getElem? (i := 518) (by decide +kernel), List.mem_of_getElem? (i := 519) (by decide +kernel)⟩
theorem lw_p30 : lw_okq (⟨"java/util/ArrayList", "grow", "(I)[Ljava/lang/Object;"⟩, 3) := ⟨⟨by decide +kernel, by decide +kernel⟩, List.mem_of_getElem? (i := 96) (by decide +kernel), List.mem_of_getElem? (i := 522) (by decide +kernel), List.mem_of_getElem? (i := 523) (by decide +kernel)⟩
theorem lw_p31 : lw_okq (⟨"RejudgeHall", "problemAt", "(I)LRejudgeHall$Problem;"⟩, 12) := ⟨⟨by decide +kernel, by decide +kernel⟩, List.mem_of_getElem? (i := 26) (by decide +kernel), List.mem_of_getElem? (i := 572) (by decide +kernel), List.mem_of_getElem? (i := 573) (by decide +kernel)⟩
def lw_privs_2 : List (MethodName × Nat) := [(⟨"RejudgeHall$Row", "isWithin", "(ILRejudgeHall$Row;)Z"⟩, 2), (⟨"RejudgeHall$Problem", "pointsOf", "(I)I"⟩, 7), (⟨"RejudgeHall", "countVerdicts", "(Z)V"⟩, 12), (⟨"RejudgeHall$Standings", "wipe", "()V"⟩, 5), (⟨"RejudgeHall", "isHidden", "(LRejudgeHall$Entry;)Z"⟩, 12), (⟨"RejudgeHall", "isLate", "(LRejudgeHall$Entry;)Z"⟩, 12), (⟨"RejudgeHall$Standings", "count", "(LRejudgeHall$Entry;Z)V"⟩, 5), (⟨"RejudgeHall", "lowestHidden", "(I)I"⟩, 12), (⟨"RejudgeHall$Standings", "isAhead", "(II)Z"⟩, 5), (⟨"java/lang/Throwable", "fillInStackTrace", "(I)Ljava/lang/Throwable;"⟩, 6), (⟨"RejudgeHall$Program", "append", "(II)V"⟩, 3), (⟨"RejudgeHall$Program", "takeFrom", "(LRejudgeHall$Program;)V"⟩, 3), (⟨"java/util/ArrayList", "add", "(Ljava/lang/Object;[Ljava/lang/Object;I)V"⟩, 3), (⟨"java/util/ArrayList", "grow", "()[Ljava/lang/Object;"⟩, 3), (⟨"java/util/ArrayList", "grow", "(I)[Ljava/lang/Object;"⟩, 3), (⟨"RejudgeHall", "problemAt", "(I)LRejudgeHall$Problem;"⟩, 12)]
theorem lw_r2 : ∀ q ∈ lw_privs_2, lw_okq q := List.forall_mem_cons.mpr ⟨lw_p16, List.forall_mem_cons.mpr ⟨lw_p17, List.forall_mem_cons.mpr ⟨lw_p18, List.forall_mem_cons.mpr ⟨lw_p19, List.forall_mem_cons.mpr ⟨lw_p20, List.forall_mem_cons.mpr ⟨lw_p21, List.forall_mem_cons.mpr ⟨lw_p22, List.forall_mem_cons.mpr ⟨lw_p23, List.forall_mem_cons.mpr ⟨lw_p24, List.forall_mem_cons.mpr ⟨lw_p25, List.forall_mem_cons.mpr ⟨lw_p26, List.forall_mem_cons.mpr ⟨lw_p27, List.forall_mem_cons.mpr ⟨lw_p28, List.forall_mem_cons.mpr ⟨lw_p29, List.forall_mem_cons.mpr ⟨lw_p30, List.forall_mem_cons.mpr ⟨lw_p31, fun _ h => absurd h List.not_mem_nil⟩⟩⟩⟩⟩⟩⟩⟩⟩⟩⟩⟩⟩⟩⟩⟩
theorem lw_p32 : lw_okq (⟨"RejudgeHall", "findsAnswer", "(LRejudgeHall$Program;LRejudgeHall$Row;)Z"⟩, 12) := ⟨⟨by decide +kernel, by decide +kernel⟩, List.mem_of_getElem? (i := 26) (by decide +kernel), List.mem_of_getElem? (i := 596) (by decide +kernel), List.mem_of_getElem? (i := 597) (by decide +kernel)⟩
theorem lw_p33 : lw_okq (⟨"RejudgeHall$Row", "copyFrom", "(LRejudgeHall$Row;)V"⟩, 2) := ⟨⟨by decide +kernel, by decide +kernel⟩, List.mem_of_getElem? (i := 55) (by decide +kernel), List.mem_of_getElem? (i := 608) (by decide +kernel), List.mem_of_getElem? (i := 609) (by decide +kernel)⟩
theorem lw_p34 : lw_okq (⟨"RejudgeHall$Problem", "addTrial", "(LRejudgeHall$Trial;)V"⟩, 7) := ⟨⟨by decide +kernel, by decide +kernel⟩, List.mem_of_getElem? (i := 290) (by decide +kernel), List.mem_of_getElem? (i := 626) (by decide +kernel), List.mem_of_getElem? (i := 627) (by decide +kernel)⟩
theorem lw_p35 : lw_okq (⟨"RejudgeHall", "findsAllAnswers", "(LRejudgeHall$Problem;LRejudgeHall$Program;)Z"⟩, 12) := ⟨⟨by decide +kernel, by decide +kernel⟩, List.mem_of_getElem? (i := 26) (by decide +kernel), List.mem_of_getElem? (i := 645) (by decide +kernel), List.mem_of_getElem? (i := 646) (by decide +kernel)⟩
theorem lw_p36 : lw_okq (⟨"RejudgeHall", "renewAnswers", "(LRejudgeHall$Problem;)V"⟩, 12) := ⟨⟨by decide +kernel, by decide +kernel⟩, List.mem_of_getElem? (i := 26) (by decide +kernel), List.mem_of_getElem? (i := 650) (by decide +kernel), List.mem_of_getElem? (i := 651) (by decide +kernel)⟩
theorem lw_p37 : lw_okq (⟨"RejudgeHall$Entry", "letWait", "()V"⟩, 8) := ⟨⟨by decide +kernel, by decide +kernel⟩, List.mem_of_getElem? (i := 214) (by decide +kernel), List.mem_of_getElem? (i := 728) (by decide +kernel), List.mem_of_getElem? (i := 729) (by decide +kernel)⟩
theorem lw_p38 : lw_okq (⟨"RejudgeHall", "entryAt", "(I)LRejudgeHall$Entry;"⟩, 12) := ⟨⟨by decide +kernel, by decide +kernel⟩, List.mem_of_getElem? (i := 26) (by decide +kernel), List.mem_of_getElem? (i := 739) (by decide +kernel), List.mem_of_getElem? (i := 740) (by decide +kernel)⟩
theorem lw_p39 : lw_okq (⟨"RejudgeHall", "longestCommon", "(LRejudgeHall$Program;LRejudgeHall$Program;)I"⟩, 12) := ⟨⟨by decide +kernel, by decide +kernel⟩, List.mem_of_getElem? (i := 26) (by decide +kernel), List.mem_of_getElem? (i := 751) (by decide +kernel), List.mem_of_getElem? (i := 752) (by decide +kernel)⟩
theorem lw_p40 : lw_okq (⟨"RejudgeHall$Program", "isAlikeAt", "(ILRejudgeHall$Program;I)Z"⟩, 3) := ⟨⟨by decide +kernel, by decide +kernel⟩, List.mem_of_getElem? (i := 34) (by decide +kernel), List.mem_of_getElem? (i := 756) (by decide +kernel), List.mem_of_getElem? (i := 757) (by decide +kernel)⟩
theorem lw_p41 : lw_okq (⟨"RejudgeHall$Standings", "placeOf", "(I)I"⟩, 5) := ⟨⟨by decide +kernel, by decide +kernel⟩, List.mem_of_getElem? (i := 122) (by decide +kernel), List.mem_of_getElem? (i := 775) (by decide +kernel), List.mem_of_getElem? (i := 776) (by decide +kernel)⟩
theorem lw_p42 : lw_okq (⟨"RejudgeHall", "passesAll", "(LRejudgeHall$Entry;)Z"⟩, 12) := ⟨⟨by decide +kernel, by decide +kernel⟩, List.mem_of_getElem? (i := 26) (by decide +kernel), List.mem_of_getElem? (i := 787) (by decide +kernel), List.mem_of_getElem? (i := 788) (by decide +kernel)⟩
theorem lw_p43 : lw_okq (⟨"RejudgeHall", "hasSolved", "(ILRejudgeHall$Problem;)Z"⟩, 12) := ⟨⟨by decide +kernel, by decide +kernel⟩, List.mem_of_getElem? (i := 26) (by decide +kernel), List.mem_of_getElem? (i := 798) (by decide +kernel), List.mem_of_getElem? (i := 799) (by decide +kernel)⟩
theorem lw_p44 : lw_okq (⟨"RejudgeHallModel", "empties", "(I)V"⟩, 39) := ⟨⟨by decide +kernel, by decide +kernel⟩, List.mem_of_getElem? (i := 805) (by decide +kernel), List.mem_of_getElem? (i := 948) (by decide +kernel), List.mem_of_getElem? (i := 949) (by decide +kernel)⟩
theorem lw_p45 : lw_okq (⟨"RejudgeHallModel", "runs", "(III)V"⟩, 39) := ⟨⟨by decide +kernel, by decide +kernel⟩, List.mem_of_getElem? (i := 805) (by decide +kernel), List.mem_of_getElem? (i := 956) (by decide +kernel), List.mem_of_getElem? (i := 957) (by decide +kernel)⟩
theorem lw_p46 : lw_okq (⟨"RejudgeHallModel", "pushes", "(I)V"⟩, 39) := ⟨⟨by decide +kernel, by decide +kernel⟩, List.mem_of_getElem? (i := 805) (by decide +kernel), List.mem_of_getElem? (i := 963) (by decide +kernel), List.mem_of_getElem? (i := 964) (by decide +kernel)⟩
theorem lw_p47 : lw_okq (⟨"RejudgeHallModel", "makes", "(J)V"⟩, 39) := ⟨⟨by decide +kernel, by decide +kernel⟩, List.mem_of_getElem? (i := 805) (by decide +kernel), List.mem_of_getElem? (i := 969) (by decide +kernel), List.mem_of_getElem? (i := 970) (by decide +kernel)⟩
def lw_privs_3 : List (MethodName × Nat) := [(⟨"RejudgeHall", "findsAnswer", "(LRejudgeHall$Program;LRejudgeHall$Row;)Z"⟩, 12), (⟨"RejudgeHall$Row", "copyFrom", "(LRejudgeHall$Row;)V"⟩, 2), (⟨"RejudgeHall$Problem", "addTrial", "(LRejudgeHall$Trial;)V"⟩, 7), (⟨"RejudgeHall", "findsAllAnswers", "(LRejudgeHall$Problem;LRejudgeHall$Program;)Z"⟩, 12), (⟨"RejudgeHall", "renewAnswers", "(LRejudgeHall$Problem;)V"⟩, 12), (⟨"RejudgeHall$Entry", "letWait", "()V"⟩, 8), (⟨"RejudgeHall", "entryAt", "(I)LRejudgeHall$Entry;"⟩, 12), (⟨"RejudgeHall", "longestCommon", "(LRejudgeHall$Program;LRejudgeHall$Program;)I"⟩, 12), (⟨"RejudgeHall$Program", "isAlikeAt", "(ILRejudgeHall$Program;I)Z"⟩, 3), (⟨"RejudgeHall$Standings", "placeOf", "(I)I"⟩, 5), (⟨"RejudgeHall", "passesAll", "(LRejudgeHall$Entry;)Z"⟩, 12), (⟨"RejudgeHall", "hasSolved", "(ILRejudgeHall$Problem;)Z"⟩, 12), (⟨"RejudgeHallModel", "empties", "(I)V"⟩, 39), (⟨"RejudgeHallModel", "runs", "(III)V"⟩, 39), (⟨"RejudgeHallModel", "pushes", "(I)V"⟩, 39), (⟨"RejudgeHallModel", "makes", "(J)V"⟩, 39)]
theorem lw_r3 : ∀ q ∈ lw_privs_3, lw_okq q := List.forall_mem_cons.mpr ⟨lw_p32, List.forall_mem_cons.mpr ⟨lw_p33, List.forall_mem_cons.mpr ⟨lw_p34, List.forall_mem_cons.mpr ⟨lw_p35, List.forall_mem_cons.mpr ⟨lw_p36, List.forall_mem_cons.mpr ⟨lw_p37, List.forall_mem_cons.mpr ⟨lw_p38, List.forall_mem_cons.mpr ⟨lw_p39, List.forall_mem_cons.mpr ⟨lw_p40, List.forall_mem_cons.mpr ⟨lw_p41, List.forall_mem_cons.mpr ⟨lw_p42, List.forall_mem_cons.mpr ⟨lw_p43, List.forall_mem_cons.mpr ⟨lw_p44, List.forall_mem_cons.mpr ⟨lw_p45, List.forall_mem_cons.mpr ⟨lw_p46, List.forall_mem_cons.mpr ⟨lw_p47, fun _ h => absurd h List.not_mem_nil⟩⟩⟩⟩⟩⟩⟩⟩⟩⟩⟩⟩⟩⟩⟩⟩
theorem lw_p48 : lw_okq (⟨"RejudgeHallModel", "copies", "(II)V"⟩, 39) := ⟨⟨by decide +kernel, by decide +kernel⟩, List.mem_of_getElem? (i := 805) (by decide +kernel), List.mem_of_getElem? (i := 982) (by decide +kernel), List.mem_of_getElem? (i := 983) (by decide +kernel)⟩
theorem lw_p49 : lw_okq (⟨"RejudgeHallModel", "isProblem", "(I)Z"⟩, 39) := ⟨⟨by decide +kernel, by decide +kernel⟩, List.mem_of_getElem? (i := 805) (by decide +kernel), List.mem_of_getElem? (i := 990) (by decide +kernel), List.mem_of_getElem? (i := 991) (by decide +kernel)⟩
theorem lw_p50 : lw_okq (⟨"RejudgeHallModel", "answers", "(II)Z"⟩, 39) := ⟨⟨by decide +kernel, by decide +kernel⟩, List.mem_of_getElem? (i := 805) (by decide +kernel), List.mem_of_getElem? (i := 997) (by decide +kernel), List.mem_of_getElem? (i := 998) (by decide +kernel)⟩
theorem lw_p51 : lw_okq (⟨"RejudgeHallModel", "becomes", "(II)V"⟩, 39) := ⟨⟨by decide +kernel, by decide +kernel⟩, List.mem_of_getElem? (i := 805) (by decide +kernel), List.mem_of_getElem? (i := 1001) (by decide +kernel), List.mem_of_getElem? (i := 1002) (by decide +kernel)⟩
theorem lw_p52 : lw_okq (⟨"RejudgeHallModel", "judges", "(I)V"⟩, 39) := ⟨⟨by decide +kernel, by decide +kernel⟩, List.mem_of_getElem? (i := 805) (by decide +kernel), List.mem_of_getElem? (i := 1032) (by decide +kernel), List.mem_of_getElem? (i := 1033) (by decide +kernel)⟩
theorem lw_p53 : lw_okq (⟨"RejudgeHallModel", "does", "(III)I"⟩, 39) := ⟨⟨by decide +kernel, by decide +kernel⟩, List.mem_of_getElem? (i := 805) (by decide +kernel), List.mem_of_getElem? (i := 1036) (by decide +kernel), List.mem_of_getElem? (i := 1037) (by decide +kernel)⟩
theorem lw_p54 : lw_okq (⟨"RejudgeHallModel", "firstFailed", "(I)I"⟩, 39) := ⟨⟨by decide +kernel, by decide +kernel⟩, List.mem_of_getElem? (i := 805) (by decide +kernel), List.mem_of_getElem? (i := 1040) (by decide +kernel), List.mem_of_getElem? (i := 1041) (by decide +kernel)⟩
theorem lw_p55 : lw_okq (⟨"RejudgeHallModel", "isEntry", "(I)Z"⟩, 39) := ⟨⟨by decide +kernel, by decide +kernel⟩, List.mem_of_getElem? (i := 805) (by decide +kernel), List.mem_of_getElem? (i := 1052) (by decide +kernel), List.mem_of_getElem? (i := 1053) (by decide +kernel)⟩
theorem lw_p56 : lw_okq (⟨"RejudgeHallModel", "areAlike", "(II)Z"⟩, 39) := ⟨⟨by decide +kernel, by decide +kernel⟩, List.mem_of_getElem? (i := 805) (by decide +kernel), List.mem_of_getElem? (i := 1060) (by decide +kernel), List.mem_of_getElem? (i := 1061) (by decide +kernel)⟩
theorem lw_p57 : lw_okq (⟨"RejudgeHallModel", "tells", "(Z)V"⟩, 39) := ⟨⟨by decide +kernel, by decide +kernel⟩, List.mem_of_getElem? (i := 805) (by decide +kernel), List.mem_of_getElem? (i := 1072) (by decide +kernel), List.mem_of_getElem? (i := 1073) (by decide +kernel)⟩
theorem lw_p58 : lw_okq (⟨"RejudgeHallModel", "isLate", "(I)Z"⟩, 39) := ⟨⟨by decide +kernel, by decide +kernel⟩, List.mem_of_getElem? (i := 805) (by decide +kernel), List.mem_of_getElem? (i := 1076) (by decide +kernel), List.mem_of_getElem? (i := 1077) (by decide +kernel)⟩
theorem lw_p59 : lw_okq (⟨"RejudgeHallModel", "boards", "()V"⟩, 39) := ⟨⟨by decide +kernel, by decide +kernel⟩, List.mem_of_getElem? (i := 805) (by decide +kernel), List.mem_of_getElem? (i := 1080) (by decide +kernel), List.mem_of_getElem? (i := 1081) (by decide +kernel)⟩
theorem lw_p60 : lw_okq (⟨"RejudgeHallModel", "counts", "(II)I"⟩, 39) := ⟨⟨by decide +kernel, by decide +kernel⟩, List.mem_of_getElem? (i := 805) (by decide +kernel), List.mem_of_getElem? (i := 1084) (by decide +kernel), List.mem_of_getElem? (i := 1085) (by decide +kernel)⟩
theorem lw_p61 : lw_okq (⟨"RejudgeHallModel", "toReveal", "(I)I"⟩, 39) := ⟨⟨by decide +kernel, by decide +kernel⟩, List.mem_of_getElem? (i := 805) (by decide +kernel), List.mem_of_getElem? (i := 1088) (by decide +kernel), List.mem_of_getElem? (i := 1089) (by decide +kernel)⟩
theorem lw_p62 : lw_okq (⟨"RejudgeHallModel", "isAhead", "(II)Z"⟩, 39) := ⟨⟨by decide +kernel, by decide +kernel⟩, List.mem_of_getElem? (i := 805) (by decide +kernel), List.mem_of_getElem? (i := 1092) (by decide +kernel), List.mem_of_getElem? (i := 1093) (by decide +kernel)⟩
theorem lw_p63 : lw_okq (⟨"RejudgeHallModel", "placeOf", "(I)I"⟩, 39) := ⟨⟨by decide +kernel, by decide +kernel⟩, List.mem_of_getElem? (i := 805) (by decide +kernel), List.mem_of_getElem? (i := 1100) (by decide +kernel), List.mem_of_getElem? (i := 1101) (by decide +kernel)⟩
def lw_privs_4 : List (MethodName × Nat) := [(⟨"RejudgeHallModel", "copies", "(II)V"⟩, 39), (⟨"RejudgeHallModel", "isProblem", "(I)Z"⟩, 39), (⟨"RejudgeHallModel", "answers", "(II)Z"⟩, 39), (⟨"RejudgeHallModel", "becomes", "(II)V"⟩, 39), (⟨"RejudgeHallModel", "judges", "(I)V"⟩, 39), (⟨"RejudgeHallModel", "does", "(III)I"⟩, 39), (⟨"RejudgeHallModel", "firstFailed", "(I)I"⟩, 39), (⟨"RejudgeHallModel", "isEntry", "(I)Z"⟩, 39), (⟨"RejudgeHallModel", "areAlike", "(II)Z"⟩, 39), (⟨"RejudgeHallModel", "tells", "(Z)V"⟩, 39), (⟨"RejudgeHallModel", "isLate", "(I)Z"⟩, 39), (⟨"RejudgeHallModel", "boards", "()V"⟩, 39), (⟨"RejudgeHallModel", "counts", "(II)I"⟩, 39), (⟨"RejudgeHallModel", "toReveal", "(I)I"⟩, 39), (⟨"RejudgeHallModel", "isAhead", "(II)Z"⟩, 39), (⟨"RejudgeHallModel", "placeOf", "(I)I"⟩, 39)]
theorem lw_r4 : ∀ q ∈ lw_privs_4, lw_okq q := List.forall_mem_cons.mpr ⟨lw_p48, List.forall_mem_cons.mpr ⟨lw_p49, List.forall_mem_cons.mpr ⟨lw_p50, List.forall_mem_cons.mpr ⟨lw_p51, List.forall_mem_cons.mpr ⟨lw_p52, List.forall_mem_cons.mpr ⟨lw_p53, List.forall_mem_cons.mpr ⟨lw_p54, List.forall_mem_cons.mpr ⟨lw_p55, List.forall_mem_cons.mpr ⟨lw_p56, List.forall_mem_cons.mpr ⟨lw_p57, List.forall_mem_cons.mpr ⟨lw_p58, List.forall_mem_cons.mpr ⟨lw_p59, List.forall_mem_cons.mpr ⟨lw_p60, List.forall_mem_cons.mpr ⟨lw_p61, List.forall_mem_cons.mpr ⟨lw_p62, List.forall_mem_cons.mpr ⟨lw_p63, fun _ h => absurd h List.not_mem_nil⟩⟩⟩⟩⟩⟩⟩⟩⟩⟩⟩⟩⟩⟩⟩⟩
def lw_privs : List (MethodName × Nat) := lw_privs_1 ++ (lw_privs_2 ++ (lw_privs_3 ++ (lw_privs_4)))
def lw_tbl : List Cond := k2_sels lw_privs ++ tables_1
theorem lw_privs_ok : ∀ q ∈ lw_privs, lw_okq q := by
  show ∀ q ∈ lw_privs_1 ++ (lw_privs_2 ++ (lw_privs_3 ++ (lw_privs_4))), lw_okq q
  exact List.forall_mem_append.mpr ⟨lw_r1, List.forall_mem_append.mpr ⟨lw_r2, List.forall_mem_append.mpr ⟨lw_r3, lw_r4⟩⟩⟩
-- ===== end of PART A; then your names; then what follows =====
def RX0 : String := "RejudgeHall$Entry"
def TX0 : u_T := fun k => match k with
  | 0 => ("RejudgeHall$Entry", "team", "I", true)
  | 1 => ("RejudgeHall$Entry", "problem", "LRejudgeHall$Problem;", true)
  | 2 => ("RejudgeHall$Entry", "minute", "I", true)
  | 3 => ("RejudgeHall$Entry", "program", "LRejudgeHall$Program;", true)
  | 4 => ("RejudgeHall$Entry", "verdict", "I", false)
  | 5 => ("RejudgeHall$Entry", "failedTest", "I", false)
  | 6 => ("RejudgeHall$Entry", "score", "I", false)
  | _ => ("RejudgeHall$Entry", "version", "I", false)
def tyX0 : Nat → FieldType := fun k => match k with
  | 0 => .int
  | 1 => .object "RejudgeHall$Problem"
  | 2 => .int
  | 3 => .object "RejudgeHall$Program"
  | 4 => .int
  | 5 => .int
  | 6 => .int
  | _ => .int
abbrev wsX00 : List Cond := u_ws RX0 TX0 8
theorem nmX0 : ∀ a, a < 8 → ∀ b, b < 8 → a ≠ b → (TX0 a).2.1 ≠ (TX0 b).2.1 := by decide +kernel
theorem tyX0_ok : ∀ k, k < 8 → parseFieldDescriptor (TX0 k).2.2.1 = some (tyX0 k) := by decide +kernel
abbrev cX0_init : ByteArray := prog_2_method_1_code
def yX0_init : MethodName := ⟨RX0, "<init>", "(ILRejudgeHall$Problem;I)V"⟩
abbrev cX0_waits : ByteArray := prog_2_method_2_code
def yX0_waits : MethodName := ⟨RX0, "waits", "()Z"⟩
abbrev cX0_letWait : ByteArray := prog_2_method_3_code
def yX0_letWait : MethodName := ⟨RX0, "letWait", "()V"⟩
def RX1 : String := "RejudgeHall$Machine"
def TX1 : u_T := fun k => match k with
  | 0 => ("RejudgeHall$Machine", "stack", "LRejudgeHall$Row;", true)
  | 1 => ("RejudgeHall$Machine", "output", "LRejudgeHall$Row;", true)
  | 2 => ("RejudgeHall$Machine", "steps", "I", false)
  | 3 => ("RejudgeHall$Machine", "next", "I", false)
  | _ => ("RejudgeHall$Machine", "inputsRead", "I", false)
def tyX1 : Nat → FieldType := fun k => match k with
  | 0 => .object "RejudgeHall$Row"
  | 1 => .object "RejudgeHall$Row"
  | 2 => .int
  | 3 => .int
  | _ => .int
abbrev wsX10 : List Cond := u_ws RX1 TX1 5
theorem nmX1 : ∀ a, a < 5 → ∀ b, b < 5 → a ≠ b → (TX1 a).2.1 ≠ (TX1 b).2.1 := by decide +kernel
theorem tyX1_ok : ∀ k, k < 5 → parseFieldDescriptor (TX1 k).2.2.1 = some (tyX1 k) := by decide +kernel
abbrev cX1_init : ByteArray := prog_3_method_1_code
def yX1_init : MethodName := ⟨RX1, "<init>", "()V"⟩
abbrev cX1_execute : ByteArray := prog_3_method_2_code
def yX1_execute : MethodName := ⟨RX1, "execute", "(LRejudgeHall$Program;LRejudgeHall$Row;I)I"⟩
abbrev cX1_step : ByteArray := prog_3_method_3_code
def yX1_step : MethodName := ⟨RX1, "step", "(LRejudgeHall$Program;LRejudgeHall$Row;)I"⟩
abbrev cX1_put : ByteArray := prog_3_method_4_code
def yX1_put : MethodName := ⟨RX1, "put", "(I)I"⟩
abbrev cX1_make : ByteArray := prog_3_method_5_code
def yX1_make : MethodName := ⟨RX1, "make", "(I)I"⟩
abbrev cX1_swap : ByteArray := prog_3_method_6_code
def yX1_swap : MethodName := ⟨RX1, "swap", "()I"⟩
abbrev cX1_goIfZero : ByteArray := prog_3_method_7_code
def yX1_goIfZero : MethodName := ⟨RX1, "goIfZero", "(II)I"⟩
abbrev cX1_goTo : ByteArray := prog_3_method_8_code
def yX1_goTo : MethodName := ⟨RX1, "goTo", "(II)I"⟩
abbrev cX1_print : ByteArray := prog_3_method_9_code
def yX1_print : MethodName := ⟨RX1, "print", "()I"⟩
def RX2 : String := "RejudgeHall$Problem"
def TX2 : u_T := fun k => match k with
  | 0 => ("RejudgeHall$Problem", "number", "I", true)
  | 1 => ("RejudgeHall$Problem", "limit", "I", true)
  | 2 => ("RejudgeHall$Problem", "solution", "LRejudgeHall$Program;", true)
  | 3 => ("RejudgeHall$Problem", "trials", "Ljava/util/ArrayList;", true)
  | 4 => ("RejudgeHall$Problem", "points", "[I", true)
  | 5 => ("RejudgeHall$Problem", "checker", "I", false)
  | _ => ("RejudgeHall$Problem", "version", "I", false)
def tyX2 : Nat → FieldType := fun k => match k with
  | 0 => .int
  | 1 => .int
  | 2 => .object "RejudgeHall$Program"
  | 3 => .object "java/util/ArrayList"
  | 4 => .array .int
  | 5 => .int
  | _ => .int
abbrev wsX20 : List Cond := u_ws RX2 TX2 7
theorem nmX2 : ∀ a, a < 7 → ∀ b, b < 7 → a ≠ b → (TX2 a).2.1 ≠ (TX2 b).2.1 := by decide +kernel
theorem tyX2_ok : ∀ k, k < 7 → parseFieldDescriptor (TX2 k).2.2.1 = some (tyX2 k) := by decide +kernel
abbrev cX2_init : ByteArray := prog_4_method_1_code
def yX2_init : MethodName := ⟨RX2, "<init>", "(III)V"⟩
abbrev cX2_addTrial : ByteArray := prog_4_method_2_code
def yX2_addTrial : MethodName := ⟨RX2, "addTrial", "(LRejudgeHall$Trial;)V"⟩
abbrev cX2_pointsOf : ByteArray := prog_4_method_3_code
def yX2_pointsOf : MethodName := ⟨RX2, "pointsOf", "(I)I"⟩
def RX3 : String := "RejudgeHall$Program"
def TX3 : u_T := fun k => match k with
  | 0 => ("RejudgeHall$Program", "sorts", "[I", true)
  | 1 => ("RejudgeHall$Program", "numbers", "[I", true)
  | _ => ("RejudgeHall$Program", "length", "I", false)
def tyX3 : Nat → FieldType := fun k => match k with
  | 0 => .array .int
  | 1 => .array .int
  | _ => .int
abbrev wsX30 : List Cond := u_ws RX3 TX3 3
theorem nmX3 : ∀ a, a < 3 → ∀ b, b < 3 → a ≠ b → (TX3 a).2.1 ≠ (TX3 b).2.1 := by decide +kernel
theorem tyX3_ok : ∀ k, k < 3 → parseFieldDescriptor (TX3 k).2.2.1 = some (tyX3 k) := by decide +kernel
abbrev cX3_init : ByteArray := prog_5_method_1_code
def yX3_init : MethodName := ⟨RX3, "<init>", "()V"⟩
abbrev cX3_append : ByteArray := prog_5_method_2_code
def yX3_append : MethodName := ⟨RX3, "append", "(II)V"⟩
abbrev cX3_takeFrom : ByteArray := prog_5_method_3_code
def yX3_takeFrom : MethodName := ⟨RX3, "takeFrom", "(LRejudgeHall$Program;)V"⟩
abbrev cX3_has : ByteArray := prog_5_method_4_code
def yX3_has : MethodName := ⟨RX3, "has", "(I)Z"⟩
abbrev cX3_isAlikeAt : ByteArray := prog_5_method_5_code
def yX3_isAlikeAt : MethodName := ⟨RX3, "isAlikeAt", "(ILRejudgeHall$Program;I)Z"⟩
def RX4 : String := "RejudgeHall$Row"
def TX4 : u_T := fun k => match k with
  | 0 => ("RejudgeHall$Row", "numbers", "[I", true)
  | _ => ("RejudgeHall$Row", "length", "I", false)
def tyX4 : Nat → FieldType := fun k => match k with
  | 0 => .array .int
  | _ => .int
abbrev wsX40 : List Cond := u_ws RX4 TX4 2
theorem nmX4 : ∀ a, a < 2 → ∀ b, b < 2 → a ≠ b → (TX4 a).2.1 ≠ (TX4 b).2.1 := by decide +kernel
theorem tyX4_ok : ∀ k, k < 2 → parseFieldDescriptor (TX4 k).2.2.1 = some (tyX4 k) := by decide +kernel
abbrev cX4_init : ByteArray := prog_6_method_1_code
def yX4_init : MethodName := ⟨RX4, "<init>", "()V"⟩
abbrev cX4_isFull : ByteArray := prog_6_method_2_code
def yX4_isFull : MethodName := ⟨RX4, "isFull", "()Z"⟩
abbrev cX4_push : ByteArray := prog_6_method_3_code
def yX4_push : MethodName := ⟨RX4, "push", "(I)V"⟩
abbrev cX4_pop : ByteArray := prog_6_method_4_code
def yX4_pop : MethodName := ⟨RX4, "pop", "()I"⟩
abbrev cX4_at : ByteArray := prog_6_method_5_code
def yX4_at : MethodName := ⟨RX4, "at", "(I)I"⟩
abbrev cX4_copyFrom : ByteArray := prog_6_method_6_code
def yX4_copyFrom : MethodName := ⟨RX4, "copyFrom", "(LRejudgeHall$Row;)V"⟩
abbrev cX4_isWithin : ByteArray := prog_6_method_7_code
def yX4_isWithin : MethodName := ⟨RX4, "isWithin", "(ILRejudgeHall$Row;)Z"⟩
def RX5 : String := "RejudgeHall$Standings"
def TX5 : u_T := fun k => match k with
  | 0 => ("RejudgeHall$Standings", "solved", "[I", true)
  | 1 => ("RejudgeHall$Standings", "sums", "[I", true)
  | 2 => ("RejudgeHall$Standings", "latest", "[I", true)
  | 3 => ("RejudgeHall$Standings", "tries", "[I", true)
  | _ => ("RejudgeHall$Standings", "isSolved", "[Z", true)
def tyX5 : Nat → FieldType := fun k => match k with
  | 0 => .array .int
  | 1 => .array .int
  | 2 => .array .int
  | 3 => .array .int
  | _ => .array .boolean
abbrev wsX50 : List Cond := u_ws RX5 TX5 5
theorem nmX5 : ∀ a, a < 5 → ∀ b, b < 5 → a ≠ b → (TX5 a).2.1 ≠ (TX5 b).2.1 := by decide +kernel
theorem tyX5_ok : ∀ k, k < 5 → parseFieldDescriptor (TX5 k).2.2.1 = some (tyX5 k) := by decide +kernel
abbrev cX5_init : ByteArray := prog_7_method_1_code
def yX5_init : MethodName := ⟨RX5, "<init>", "()V"⟩
abbrev cX5_wipe : ByteArray := prog_7_method_2_code
def yX5_wipe : MethodName := ⟨RX5, "wipe", "()V"⟩
abbrev cX5_count : ByteArray := prog_7_method_3_code
def yX5_count : MethodName := ⟨RX5, "count", "(LRejudgeHall$Entry;Z)V"⟩
abbrev cX5_isAhead : ByteArray := prog_7_method_4_code
def yX5_isAhead : MethodName := ⟨RX5, "isAhead", "(II)Z"⟩
abbrev cX5_placeOf : ByteArray := prog_7_method_5_code
def yX5_placeOf : MethodName := ⟨RX5, "placeOf", "(I)I"⟩
def RX6 : String := "RejudgeHall$Trial"
def TX6 : u_T := fun k => match k with
  | 0 => ("RejudgeHall$Trial", "input", "LRejudgeHall$Row;", true)
  | 1 => ("RejudgeHall$Trial", "answer", "LRejudgeHall$Row;", true)
  | _ => ("RejudgeHall$Trial", "group", "I", true)
def tyX6 : Nat → FieldType := fun k => match k with
  | 0 => .object "RejudgeHall$Row"
  | 1 => .object "RejudgeHall$Row"
  | _ => .int
abbrev wsX60 : List Cond := u_ws RX6 TX6 3
theorem nmX6 : ∀ a, a < 3 → ∀ b, b < 3 → a ≠ b → (TX6 a).2.1 ≠ (TX6 b).2.1 := by decide +kernel
theorem tyX6_ok : ∀ k, k < 3 → parseFieldDescriptor (TX6 k).2.2.1 = some (tyX6 k) := by decide +kernel
abbrev cX6_init : ByteArray := prog_8_method_1_code
def yX6_init : MethodName := ⟨RX6, "<init>", "(LRejudgeHall$Row;LRejudgeHall$Row;I)V"⟩
def RX7 : String := "RejudgeHall"
def TX7 : u_T := fun k => match k with
  | 0 => ("RejudgeHall", "deskProgram", "LRejudgeHall$Program;", true)
  | 1 => ("RejudgeHall", "deskInput", "LRejudgeHall$Row;", true)
  | 2 => ("RejudgeHall", "machine", "LRejudgeHall$Machine;", true)
  | 3 => ("RejudgeHall", "problems", "Ljava/util/ArrayList;", true)
  | 4 => ("RejudgeHall", "entries", "Ljava/util/ArrayList;", true)
  | 5 => ("RejudgeHall", "standings", "LRejudgeHall$Standings;", true)
  | 6 => ("RejudgeHall", "judgings", "[I", true)
  | 7 => ("RejudgeHall", "hacks", "[I", true)
  | 8 => ("RejudgeHall", "revealed", "[Z", true)
  | 9 => ("RejudgeHall", "commonRow", "[I", true)
  | 10 => ("RejudgeHall", "minute", "I", false)
  | _ => ("RejudgeHall", "frozenFrom", "I", false)
def tyX7 : Nat → FieldType := fun k => match k with
  | 0 => .object "RejudgeHall$Program"
  | 1 => .object "RejudgeHall$Row"
  | 2 => .object "RejudgeHall$Machine"
  | 3 => .object "java/util/ArrayList"
  | 4 => .object "java/util/ArrayList"
  | 5 => .object "RejudgeHall$Standings"
  | 6 => .array .int
  | 7 => .array .int
  | 8 => .array .boolean
  | 9 => .array .int
  | 10 => .int
  | _ => .int
abbrev wsX70 : List Cond := u_ws RX7 TX7 12
theorem nmX7 : ∀ a, a < 12 → ∀ b, b < 12 → a ≠ b → (TX7 a).2.1 ≠ (TX7 b).2.1 := by decide +kernel
theorem tyX7_ok : ∀ k, k < 12 → parseFieldDescriptor (TX7 k).2.2.1 = some (tyX7 k) := by decide +kernel
abbrev cX7_init : ByteArray := prog_1_method_1_code
def yX7_init : MethodName := ⟨RX7, "<init>", "()V"⟩
abbrev cX7_code : ByteArray := prog_1_method_2_code
def yX7_code : MethodName := ⟨RX7, "code", "(II)I"⟩
abbrev cX7_input : ByteArray := prog_1_method_3_code
def yX7_input : MethodName := ⟨RX7, "input", "(I)I"⟩
abbrev cX7_clear : ByteArray := prog_1_method_4_code
def yX7_clear : MethodName := ⟨RX7, "clear", "()I"⟩
abbrev cX7_run : ByteArray := prog_1_method_5_code
def yX7_run : MethodName := ⟨RX7, "run", "(II)I"⟩
abbrev cX7_problem : ByteArray := prog_1_method_6_code
def yX7_problem : MethodName := ⟨RX7, "problem", "(II)I"⟩
abbrev cX7_test : ByteArray := prog_1_method_7_code
def yX7_test : MethodName := ⟨RX7, "test", "(II)I"⟩
abbrev cX7_points : ByteArray := prog_1_method_8_code
def yX7_points : MethodName := ⟨RX7, "points", "(III)I"⟩
abbrev cX7_mend : ByteArray := prog_1_method_9_code
def yX7_mend : MethodName := ⟨RX7, "mend", "(II)I"⟩
abbrev cX7_answer : ByteArray := prog_1_method_10_code
def yX7_answer : MethodName := ⟨RX7, "answer", "(III)I"⟩
abbrev cX7_enter : ByteArray := prog_1_method_11_code
def yX7_enter : MethodName := ⟨RX7, "enter", "(II)I"⟩
abbrev cX7_pass : ByteArray := prog_1_method_12_code
def yX7_pass : MethodName := ⟨RX7, "pass", "(I)I"⟩
abbrev cX7_judge : ByteArray := prog_1_method_13_code
def yX7_judge : MethodName := ⟨RX7, "judge", "()I"⟩
abbrev cX7_rejudge : ByteArray := prog_1_method_14_code
def yX7_rejudge : MethodName := ⟨RX7, "rejudge", "(I)I"⟩
abbrev cX7_entry : ByteArray := prog_1_method_15_code
def yX7_entry : MethodName := ⟨RX7, "entry", "(II)I"⟩
abbrev cX7_likeness : ByteArray := prog_1_method_16_code
def yX7_likeness : MethodName := ⟨RX7, "likeness", "(II)I"⟩
abbrev cX7_freeze : ByteArray := prog_1_method_17_code
def yX7_freeze : MethodName := ⟨RX7, "freeze", "(I)V"⟩
abbrev cX7_reveal : ByteArray := prog_1_method_18_code
def yX7_reveal : MethodName := ⟨RX7, "reveal", "()I"⟩
abbrev cX7_board : ByteArray := prog_1_method_19_code
def yX7_board : MethodName := ⟨RX7, "board", "(IZI)I"⟩
abbrev cX7_placeAnew : ByteArray := prog_1_method_20_code
def yX7_placeAnew : MethodName := ⟨RX7, "placeAnew", "(I)I"⟩
abbrev cX7_hack : ByteArray := prog_1_method_21_code
def yX7_hack : MethodName := ⟨RX7, "hack", "(II)Z"⟩
abbrev cX7_needRange : ByteArray := prog_1_method_22_code
def yX7_needRange : MethodName := ⟨RX7, "needRange", "(III)V"⟩
abbrev cX7_needIndex : ByteArray := prog_1_method_23_code
def yX7_needIndex : MethodName := ⟨RX7, "needIndex", "(II)V"⟩
abbrev cX7_problemAt : ByteArray := prog_1_method_24_code
def yX7_problemAt : MethodName := ⟨RX7, "problemAt", "(I)LRejudgeHall$Problem;"⟩
abbrev cX7_entryAt : ByteArray := prog_1_method_25_code
def yX7_entryAt : MethodName := ⟨RX7, "entryAt", "(I)LRejudgeHall$Entry;"⟩
abbrev cX7_findsAnswer : ByteArray := prog_1_method_26_code
def yX7_findsAnswer : MethodName := ⟨RX7, "findsAnswer", "(LRejudgeHall$Program;LRejudgeHall$Row;)Z"⟩
abbrev cX7_findsAllAnswers : ByteArray := prog_1_method_27_code
def yX7_findsAllAnswers : MethodName := ⟨RX7, "findsAllAnswers", "(LRejudgeHall$Problem;LRejudgeHall$Program;)Z"⟩
abbrev cX7_renewAnswers : ByteArray := prog_1_method_28_code
def yX7_renewAnswers : MethodName := ⟨RX7, "renewAnswers", "(LRejudgeHall$Problem;)V"⟩
abbrev cX7_tryOut : ByteArray := prog_1_method_29_code
def yX7_tryOut : MethodName := ⟨RX7, "tryOut", "(LRejudgeHall$Entry;LRejudgeHall$Trial;)I"⟩
abbrev cX7_passesAll : ByteArray := prog_1_method_30_code
def yX7_passesAll : MethodName := ⟨RX7, "passesAll", "(LRejudgeHall$Entry;)Z"⟩
abbrev cX7_giveVerdict : ByteArray := prog_1_method_31_code
def yX7_giveVerdict : MethodName := ⟨RX7, "giveVerdict", "(LRejudgeHall$Entry;)V"⟩
abbrev cX7_hasSolved : ByteArray := prog_1_method_32_code
def yX7_hasSolved : MethodName := ⟨RX7, "hasSolved", "(ILRejudgeHall$Problem;)Z"⟩
abbrev cX7_longestCommon : ByteArray := prog_1_method_33_code
def yX7_longestCommon : MethodName := ⟨RX7, "longestCommon", "(LRejudgeHall$Program;LRejudgeHall$Program;)I"⟩
abbrev cX7_pairOf : ByteArray := prog_1_method_34_code
def yX7_pairOf : MethodName := ⟨RX7, "pairOf", "(II)I"⟩
abbrev cX7_isLate : ByteArray := prog_1_method_35_code
def yX7_isLate : MethodName := ⟨RX7, "isLate", "(LRejudgeHall$Entry;)Z"⟩
abbrev cX7_isHidden : ByteArray := prog_1_method_36_code
def yX7_isHidden : MethodName := ⟨RX7, "isHidden", "(LRejudgeHall$Entry;)Z"⟩
abbrev cX7_countVerdicts : ByteArray := prog_1_method_37_code
def yX7_countVerdicts : MethodName := ⟨RX7, "countVerdicts", "(Z)V"⟩
abbrev cX7_lowestHidden : ByteArray := prog_1_method_38_code
def yX7_lowestHidden : MethodName := ⟨RX7, "lowestHidden", "(I)I"⟩
def RX8 : String := "RejudgeHallModel"
def TX8 : u_T := fun k => match k with
  | 0 => ("RejudgeHallModel", "minute", "I", false)
  | 1 => ("RejudgeHallModel", "size", "[I", true)
  | 2 => ("RejudgeHallModel", "sort", "[I", true)
  | 3 => ("RejudgeHallModel", "number", "[I", true)
  | 4 => ("RejudgeHallModel", "given", "[I", true)
  | 5 => ("RejudgeHallModel", "inputs", "[I", true)
  | 6 => ("RejudgeHallModel", "problems", "I", false)
  | 7 => ("RejudgeHallModel", "limit", "[I", true)
  | 8 => ("RejudgeHallModel", "checker", "[I", true)
  | 9 => ("RejudgeHallModel", "version", "[I", true)
  | 10 => ("RejudgeHallModel", "tests", "[I", true)
  | 11 => ("RejudgeHallModel", "groupOf", "[I", true)
  | 12 => ("RejudgeHallModel", "points", "[I", true)
  | 13 => ("RejudgeHallModel", "entries", "I", false)
  | 14 => ("RejudgeHallModel", "team", "[I", true)
  | 15 => ("RejudgeHallModel", "problemOf", "[I", true)
  | 16 => ("RejudgeHallModel", "when", "[I", true)
  | 17 => ("RejudgeHallModel", "verdict", "[I", true)
  | 18 => ("RejudgeHallModel", "failed", "[I", true)
  | 19 => ("RejudgeHallModel", "score", "[I", true)
  | 20 => ("RejudgeHallModel", "judgedBy", "[I", true)
  | 21 => ("RejudgeHallModel", "judgings", "[I", true)
  | 22 => ("RejudgeHallModel", "hacks", "[I", true)
  | 23 => ("RejudgeHallModel", "frozenFrom", "I", false)
  | 24 => ("RejudgeHallModel", "revealed", "[Z", true)
  | 25 => ("RejudgeHallModel", "fails", "I", false)
  | 26 => ("RejudgeHallModel", "steps", "I", false)
  | 27 => ("RejudgeHallModel", "printed", "I", false)
  | 28 => ("RejudgeHallModel", "output", "[I", true)
  | 29 => ("RejudgeHallModel", "stack", "[I", true)
  | 30 => ("RejudgeHallModel", "pushed", "I", false)
  | 31 => ("RejudgeHallModel", "answered", "I", false)
  | 32 => ("RejudgeHallModel", "answer", "[I", true)
  | 33 => ("RejudgeHallModel", "told", "[I", true)
  | 34 => ("RejudgeHallModel", "solved", "[I", true)
  | 35 => ("RejudgeHallModel", "sum", "[I", true)
  | 36 => ("RejudgeHallModel", "latest", "[I", true)
  | 37 => ("RejudgeHallModel", "row", "[I", true)
  | _ => ("RejudgeHallModel", "thrown", "I", false)
def tyX8 : Nat → FieldType := fun k => match k with
  | 0 => .int
  | 1 => .array .int
  | 2 => .array .int
  | 3 => .array .int
  | 4 => .array .int
  | 5 => .array .int
  | 6 => .int
  | 7 => .array .int
  | 8 => .array .int
  | 9 => .array .int
  | 10 => .array .int
  | 11 => .array .int
  | 12 => .array .int
  | 13 => .int
  | 14 => .array .int
  | 15 => .array .int
  | 16 => .array .int
  | 17 => .array .int
  | 18 => .array .int
  | 19 => .array .int
  | 20 => .array .int
  | 21 => .array .int
  | 22 => .array .int
  | 23 => .int
  | 24 => .array .boolean
  | 25 => .int
  | 26 => .int
  | 27 => .int
  | 28 => .array .int
  | 29 => .array .int
  | 30 => .int
  | 31 => .int
  | 32 => .array .int
  | 33 => .array .int
  | 34 => .array .int
  | 35 => .array .int
  | 36 => .array .int
  | 37 => .array .int
  | _ => .int
abbrev wsX80 : List Cond := u_ws RX8 TX8 39
theorem nmX8 : ∀ a, a < 39 → ∀ b, b < 39 → a ≠ b → (TX8 a).2.1 ≠ (TX8 b).2.1 := by decide +kernel
theorem tyX8_ok : ∀ k, k < 39 → parseFieldDescriptor (TX8 k).2.2.1 = some (tyX8 k) := by decide +kernel
abbrev cX8_init : ByteArray := prog_10_method_1_code
def yX8_init : MethodName := ⟨RX8, "<init>", "()V"⟩
abbrev cX8_thrown : ByteArray := prog_10_method_2_code
def yX8_thrown : MethodName := ⟨RX8, "thrown", "()I"⟩
abbrev cX8_isIn : ByteArray := prog_10_method_3_code
def yX8_isIn : MethodName := ⟨RX8, "isIn", "(III)Z"⟩
abbrev cX8_isProblem : ByteArray := prog_10_method_4_code
def yX8_isProblem : MethodName := ⟨RX8, "isProblem", "(I)Z"⟩
abbrev cX8_isEntry : ByteArray := prog_10_method_5_code
def yX8_isEntry : MethodName := ⟨RX8, "isEntry", "(I)Z"⟩
abbrev cX8_isTeam : ByteArray := prog_10_method_6_code
def yX8_isTeam : MethodName := ⟨RX8, "isTeam", "(I)Z"⟩
abbrev cX8_isGroup : ByteArray := prog_10_method_7_code
def yX8_isGroup : MethodName := ⟨RX8, "isGroup", "(I)Z"⟩
abbrev cX8_needs : ByteArray := prog_10_method_8_code
def yX8_needs : MethodName := ⟨RX8, "needs", "(I)I"⟩
abbrev cX8_pushes : ByteArray := prog_10_method_9_code
def yX8_pushes : MethodName := ⟨RX8, "pushes", "(I)V"⟩
abbrev cX8_runs : ByteArray := prog_10_method_10_code
def yX8_runs : MethodName := ⟨RX8, "runs", "(III)V"⟩
abbrev cX8_makes : ByteArray := prog_10_method_11_code
def yX8_makes : MethodName := ⟨RX8, "makes", "(J)V"⟩
abbrev cX8_empties : ByteArray := prog_10_method_12_code
def yX8_empties : MethodName := ⟨RX8, "empties", "(I)V"⟩
abbrev cX8_copies : ByteArray := prog_10_method_13_code
def yX8_copies : MethodName := ⟨RX8, "copies", "(II)V"⟩
abbrev cX8_code : ByteArray := prog_10_method_14_code
def yX8_code : MethodName := ⟨RX8, "code", "(II)I"⟩
abbrev cX8_input : ByteArray := prog_10_method_15_code
def yX8_input : MethodName := ⟨RX8, "input", "(I)I"⟩
abbrev cX8_clear : ByteArray := prog_10_method_16_code
def yX8_clear : MethodName := ⟨RX8, "clear", "()I"⟩
abbrev cX8_run : ByteArray := prog_10_method_17_code
def yX8_run : MethodName := ⟨RX8, "run", "(II)I"⟩
abbrev cX8_answers : ByteArray := prog_10_method_18_code
def yX8_answers : MethodName := ⟨RX8, "answers", "(II)Z"⟩
abbrev cX8_isChecker : ByteArray := prog_10_method_19_code
def yX8_isChecker : MethodName := ⟨RX8, "isChecker", "(I)Z"⟩
abbrev cX8_problem : ByteArray := prog_10_method_20_code
def yX8_problem : MethodName := ⟨RX8, "problem", "(II)I"⟩
abbrev cX8_becomes : ByteArray := prog_10_method_21_code
def yX8_becomes : MethodName := ⟨RX8, "becomes", "(II)V"⟩
abbrev cX8_test : ByteArray := prog_10_method_22_code
def yX8_test : MethodName := ⟨RX8, "test", "(II)I"⟩
abbrev cX8_points : ByteArray := prog_10_method_23_code
def yX8_points : MethodName := ⟨RX8, "points", "(III)I"⟩
abbrev cX8_mend : ByteArray := prog_10_method_24_code
def yX8_mend : MethodName := ⟨RX8, "mend", "(II)I"⟩
abbrev cX8_answer : ByteArray := prog_10_method_25_code
def yX8_answer : MethodName := ⟨RX8, "answer", "(III)I"⟩
abbrev cX8_does : ByteArray := prog_10_method_26_code
def yX8_does : MethodName := ⟨RX8, "does", "(III)I"⟩
abbrev cX8_firstFailed : ByteArray := prog_10_method_27_code
def yX8_firstFailed : MethodName := ⟨RX8, "firstFailed", "(I)I"⟩
abbrev cX8_judges : ByteArray := prog_10_method_28_code
def yX8_judges : MethodName := ⟨RX8, "judges", "(I)V"⟩
abbrev cX8_enter : ByteArray := prog_10_method_29_code
def yX8_enter : MethodName := ⟨RX8, "enter", "(II)I"⟩
abbrev cX8_pass : ByteArray := prog_10_method_30_code
def yX8_pass : MethodName := ⟨RX8, "pass", "(I)I"⟩
abbrev cX8_judge : ByteArray := prog_10_method_31_code
def yX8_judge : MethodName := ⟨RX8, "judge", "()I"⟩
abbrev cX8_rejudge : ByteArray := prog_10_method_32_code
def yX8_rejudge : MethodName := ⟨RX8, "rejudge", "(I)I"⟩
abbrev cX8_entry : ByteArray := prog_10_method_33_code
def yX8_entry : MethodName := ⟨RX8, "entry", "(II)I"⟩
abbrev cX8_areAlike : ByteArray := prog_10_method_34_code
def yX8_areAlike : MethodName := ⟨RX8, "areAlike", "(II)Z"⟩
abbrev cX8_likeness : ByteArray := prog_10_method_35_code
def yX8_likeness : MethodName := ⟨RX8, "likeness", "(II)I"⟩
abbrev cX8_isLate : ByteArray := prog_10_method_36_code
def yX8_isLate : MethodName := ⟨RX8, "isLate", "(I)Z"⟩
abbrev cX8_counts : ByteArray := prog_10_method_37_code
def yX8_counts : MethodName := ⟨RX8, "counts", "(II)I"⟩
abbrev cX8_boards : ByteArray := prog_10_method_38_code
def yX8_boards : MethodName := ⟨RX8, "boards", "()V"⟩
abbrev cX8_tells : ByteArray := prog_10_method_39_code
def yX8_tells : MethodName := ⟨RX8, "tells", "(Z)V"⟩
abbrev cX8_isAhead : ByteArray := prog_10_method_40_code
def yX8_isAhead : MethodName := ⟨RX8, "isAhead", "(II)Z"⟩
abbrev cX8_placeOf : ByteArray := prog_10_method_41_code
def yX8_placeOf : MethodName := ⟨RX8, "placeOf", "(I)I"⟩
abbrev cX8_freeze : ByteArray := prog_10_method_42_code
def yX8_freeze : MethodName := ⟨RX8, "freeze", "(I)V"⟩
abbrev cX8_toReveal : ByteArray := prog_10_method_43_code
def yX8_toReveal : MethodName := ⟨RX8, "toReveal", "(I)I"⟩
abbrev cX8_reveal : ByteArray := prog_10_method_44_code
def yX8_reveal : MethodName := ⟨RX8, "reveal", "()I"⟩
abbrev cX8_board : ByteArray := prog_10_method_45_code
def yX8_board : MethodName := ⟨RX8, "board", "(IZI)I"⟩
abbrev cX8_placeAnew : ByteArray := prog_10_method_46_code
def yX8_placeAnew : MethodName := ⟨RX8, "placeAnew", "(I)I"⟩
abbrev cX8_hack : ByteArray := prog_10_method_47_code
def yX8_hack : MethodName := ⟨RX8, "hack", "(II)Z"⟩
def RJx145de : String := "java/io/Serializable"
def TJx145de : u_T := fun k => match k with
  | _ => ("", "", "", false)
def tyJx145de : Nat → FieldType := fun k => match k with
  | _ => .int
abbrev wsJx145de0 : List Cond := u_ws RJx145de TJx145de 0
theorem nmJx145de : ∀ a, a < 0 → ∀ b, b < 0 → a ≠ b → (TJx145de a).2.1 ≠ (TJx145de b).2.1 := by decide +kernel
theorem tyJx145de_ok : ∀ k, k < 0 → parseFieldDescriptor (TJx145de k).2.2.1 = some (tyJx145de k) := by decide +kernel
def RJx8e188 : String := "java/lang/Cloneable"
def TJx8e188 : u_T := fun k => match k with
  | _ => ("", "", "", false)
def tyJx8e188 : Nat → FieldType := fun k => match k with
  | _ => .int
abbrev wsJx8e1880 : List Cond := u_ws RJx8e188 TJx8e188 0
theorem nmJx8e188 : ∀ a, a < 0 → ∀ b, b < 0 → a ≠ b → (TJx8e188 a).2.1 ≠ (TJx8e188 b).2.1 := by decide +kernel
theorem tyJx8e188_ok : ∀ k, k < 0 → parseFieldDescriptor (TJx8e188 k).2.2.1 = some (tyJx8e188 k) := by decide +kernel
def RJxab1ab : String := "java/lang/Iterable"
def TJxab1ab : u_T := fun k => match k with
  | _ => ("", "", "", false)
def tyJxab1ab : Nat → FieldType := fun k => match k with
  | _ => .int
abbrev wsJxab1ab0 : List Cond := u_ws RJxab1ab TJxab1ab 0
theorem nmJxab1ab : ∀ a, a < 0 → ∀ b, b < 0 → a ≠ b → (TJxab1ab a).2.1 ≠ (TJxab1ab b).2.1 := by decide +kernel
theorem tyJxab1ab_ok : ∀ k, k < 0 → parseFieldDescriptor (TJxab1ab k).2.2.1 = some (tyJxab1ab k) := by decide +kernel
def RJ9 : String := "java/lang/Math"
def TJ9 : u_T := fun k => match k with
  | _ => ("", "", "", false)
def tyJ9 : Nat → FieldType := fun k => match k with
  | _ => .int
abbrev wsJ90 : List Cond := u_ws RJ9 TJ9 0
theorem nmJ9 : ∀ a, a < 0 → ∀ b, b < 0 → a ≠ b → (TJ9 a).2.1 ≠ (TJ9 b).2.1 := by decide +kernel
theorem tyJ9_ok : ∀ k, k < 0 → parseFieldDescriptor (TJ9 k).2.2.1 = some (tyJ9 k) := by decide +kernel
abbrev cJ9_abs_0f7a4 : ByteArray := prog_18_method_59_code
def yJ9_abs_0f7a4 : MethodName := ⟨RJ9, "abs", "(I)I"⟩
abbrev cJ9_max_7cf53 : ByteArray := prog_18_method_65_code
def yJ9_max_7cf53 : MethodName := ⟨RJ9, "max", "(II)I"⟩
abbrev cJ9_min_7cf53 : ByteArray := prog_18_method_69_code
def yJ9_min_7cf53 : MethodName := ⟨RJ9, "min", "(II)I"⟩
def RJ0 : String := "java/lang/String"
def TJ0 : u_T := fun k => match k with
  | _ => ("", "", "", false)
def tyJ0 : Nat → FieldType := fun k => match k with
  | _ => .int
abbrev wsJ00 : List Cond := u_ws RJ0 TJ0 0
theorem nmJ0 : ∀ a, a < 0 → ∀ b, b < 0 → a ≠ b → (TJ0 a).2.1 ≠ (TJ0 b).2.1 := by decide +kernel
theorem tyJ0_ok : ∀ k, k < 0 → parseFieldDescriptor (TJ0 k).2.2.1 = some (tyJ0 k) := by decide +kernel
def RJ10 : String := "java/lang/System"
def TJ10 : u_T := fun k => match k with
  | _ => ("", "", "", false)
def tyJ10 : Nat → FieldType := fun k => match k with
  | _ => .int
abbrev wsJ100 : List Cond := u_ws RJ10 TJ10 0
theorem nmJ10 : ∀ a, a < 0 → ∀ b, b < 0 → a ≠ b → (TJ10 a).2.1 ≠ (TJ10 b).2.1 := by decide +kernel
theorem tyJ10_ok : ∀ k, k < 0 → parseFieldDescriptor (TJ10 k).2.2.1 = some (tyJ10 k) := by decide +kernel
def RJxa1e45 : String := "java/util/AbstractCollection"
def TJxa1e45 : u_T := fun k => match k with
  | _ => ("", "", "", false)
def tyJxa1e45 : Nat → FieldType := fun k => match k with
  | _ => .int
abbrev wsJxa1e450 : List Cond := u_ws RJxa1e45 TJxa1e45 0
theorem nmJxa1e45 : ∀ a, a < 0 → ∀ b, b < 0 → a ≠ b → (TJxa1e45 a).2.1 ≠ (TJxa1e45 b).2.1 := by decide +kernel
theorem tyJxa1e45_ok : ∀ k, k < 0 → parseFieldDescriptor (TJxa1e45 k).2.2.1 = some (tyJxa1e45 k) := by decide +kernel
abbrev cJxa1e45_init_da8c8 : ByteArray := prog_23_method_1_code
def yJxa1e45_init_da8c8 : MethodName := ⟨RJxa1e45, "<init>", "()V"⟩
def RJxc12de : String := "java/util/AbstractList"
def TJxc12de : u_T := fun k => match k with
  | _ => ("", "", "", false)
def tyJxc12de : Nat → FieldType := fun k => match k with
  | _ => .int
abbrev wsJxc12de0 : List Cond := u_ws RJxc12de TJxc12de 0
theorem nmJxc12de : ∀ a, a < 0 → ∀ b, b < 0 → a ≠ b → (TJxc12de a).2.1 ≠ (TJxc12de b).2.1 := by decide +kernel
theorem tyJxc12de_ok : ∀ k, k < 0 → parseFieldDescriptor (TJxc12de k).2.2.1 = some (tyJxc12de k) := by decide +kernel
abbrev cJxc12de_init_da8c8 : ByteArray := prog_24_method_1_code
def yJxc12de_init_da8c8 : MethodName := ⟨RJxc12de, "<init>", "()V"⟩
def RJx4a65c : String := "java/util/ArrayList"
def TJx4a65c : u_T := fun k => match k with
  | 0 => ("java/util/AbstractList", "modCount", "I", false)
  | 1 => ("java/util/ArrayList", "elementData", "[Ljava/lang/Object;", false)
  | _ => ("java/util/ArrayList", "size", "I", false)
def tyJx4a65c : Nat → FieldType := fun k => match k with
  | 0 => .int
  | 1 => .array (.object "java/lang/Object")
  | _ => .int
abbrev wsJx4a65c0 : List Cond := u_ws RJx4a65c TJx4a65c 3
theorem nmJx4a65c : ∀ a, a < 3 → ∀ b, b < 3 → a ≠ b → (TJx4a65c a).2.1 ≠ (TJx4a65c b).2.1 := by decide +kernel
theorem tyJx4a65c_ok : ∀ k, k < 3 → parseFieldDescriptor (TJx4a65c k).2.2.1 = some (tyJx4a65c k) := by decide +kernel
abbrev cJx4a65c_init_da8c8 : ByteArray := prog_25_method_2_code
def yJx4a65c_init_da8c8 : MethodName := ⟨RJx4a65c, "<init>", "()V"⟩
abbrev cJx4a65c_grow_92f84 : ByteArray := prog_25_method_6_code
def yJx4a65c_grow_92f84 : MethodName := ⟨RJx4a65c, "grow", "(I)[Ljava/lang/Object;"⟩
abbrev cJx4a65c_grow_d5877 : ByteArray := prog_25_method_7_code
def yJx4a65c_grow_d5877 : MethodName := ⟨RJx4a65c, "grow", "()[Ljava/lang/Object;"⟩
abbrev cJx4a65c_size_8abf5 : ByteArray := prog_25_method_8_code
def yJx4a65c_size_8abf5 : MethodName := ⟨RJx4a65c, "size", "()I"⟩
abbrev cJx4a65c_elementData_915e3 : ByteArray := prog_25_method_18_code
def yJx4a65c_elementData_915e3 : MethodName := ⟨RJx4a65c, "elementData", "(I)Ljava/lang/Object;"⟩
abbrev cJx4a65c_get_915e3 : ByteArray := prog_25_method_20_code
def yJx4a65c_get_915e3 : MethodName := ⟨RJx4a65c, "get", "(I)Ljava/lang/Object;"⟩
abbrev cJx4a65c_add_72be8 : ByteArray := prog_25_method_24_code
def yJx4a65c_add_72be8 : MethodName := ⟨RJx4a65c, "add", "(Ljava/lang/Object;[Ljava/lang/Object;I)V"⟩
abbrev cJx4a65c_add_9ea2d : ByteArray := prog_25_method_25_code
def yJx4a65c_add_9ea2d : MethodName := ⟨RJx4a65c, "add", "(Ljava/lang/Object;)Z"⟩
def RJ7 : String := "java/util/Arrays"
def TJ7 : u_T := fun k => match k with
  | _ => ("", "", "", false)
def tyJ7 : Nat → FieldType := fun k => match k with
  | _ => .int
abbrev wsJ70 : List Cond := u_ws RJ7 TJ7 0
theorem nmJ7 : ∀ a, a < 0 → ∀ b, b < 0 → a ≠ b → (TJ7 a).2.1 ≠ (TJ7 b).2.1 := by decide +kernel
theorem tyJ7_ok : ∀ k, k < 0 → parseFieldDescriptor (TJ7 k).2.2.1 = some (tyJ7 k) := by decide +kernel
abbrev cJ7_fill_53178 : ByteArray := prog_26_method_103_code
def yJ7_fill_53178 : MethodName := ⟨RJ7, "fill", "([II)V"⟩
abbrev cJ7_copyOf_1904c : ByteArray := prog_26_method_119_code
def yJ7_copyOf_1904c : MethodName := ⟨RJ7, "copyOf", "([Ljava/lang/Object;I)[Ljava/lang/Object;"⟩
abbrev cJ7_copyOf_6403c : ByteArray := prog_26_method_120_code
def yJ7_copyOf_6403c : MethodName := ⟨RJ7, "copyOf", "([Ljava/lang/Object;ILjava/lang/Class;)[Ljava/lang/Object;"⟩
def RJx5ef63 : String := "java/util/Collection"
def TJx5ef63 : u_T := fun k => match k with
  | _ => ("", "", "", false)
def tyJx5ef63 : Nat → FieldType := fun k => match k with
  | _ => .int
abbrev wsJx5ef630 : List Cond := u_ws RJx5ef63 TJx5ef63 0
theorem nmJx5ef63 : ∀ a, a < 0 → ∀ b, b < 0 → a ≠ b → (TJx5ef63 a).2.1 ≠ (TJx5ef63 b).2.1 := by decide +kernel
theorem tyJx5ef63_ok : ∀ k, k < 0 → parseFieldDescriptor (TJx5ef63 k).2.2.1 = some (tyJx5ef63 k) := by decide +kernel
def RJxbd725 : String := "java/util/List"
def TJxbd725 : u_T := fun k => match k with
  | _ => ("", "", "", false)
def tyJxbd725 : Nat → FieldType := fun k => match k with
  | _ => .int
abbrev wsJxbd7250 : List Cond := u_ws RJxbd725 TJxbd725 0
theorem nmJxbd725 : ∀ a, a < 0 → ∀ b, b < 0 → a ≠ b → (TJxbd725 a).2.1 ≠ (TJxbd725 b).2.1 := by decide +kernel
theorem tyJxbd725_ok : ∀ k, k < 0 → parseFieldDescriptor (TJxbd725 k).2.2.1 = some (tyJxbd725 k) := by decide +kernel
def RJ15 : String := "java/util/Objects"
def TJ15 : u_T := fun k => match k with
  | _ => ("", "", "", false)
def tyJ15 : Nat → FieldType := fun k => match k with
  | _ => .int
abbrev wsJ150 : List Cond := u_ws RJ15 TJ15 0
theorem nmJ15 : ∀ a, a < 0 → ∀ b, b < 0 → a ≠ b → (TJ15 a).2.1 ≠ (TJ15 b).2.1 := by decide +kernel
theorem tyJ15_ok : ∀ k, k < 0 → parseFieldDescriptor (TJ15 k).2.2.1 = some (tyJ15 k) := by decide +kernel
abbrev cJ15_checkIndex_7cf53 : ByteArray := prog_29_method_17_code
def yJ15_checkIndex_7cf53 : MethodName := ⟨RJ15, "checkIndex", "(II)I"⟩
def RJxf0a74 : String := "java/util/RandomAccess"
def TJxf0a74 : u_T := fun k => match k with
  | _ => ("", "", "", false)
def tyJxf0a74 : Nat → FieldType := fun k => match k with
  | _ => .int
abbrev wsJxf0a740 : List Cond := u_ws RJxf0a74 TJxf0a74 0
theorem nmJxf0a74 : ∀ a, a < 0 → ∀ b, b < 0 → a ≠ b → (TJxf0a74 a).2.1 ≠ (TJxf0a74 b).2.1 := by decide +kernel
theorem tyJxf0a74_ok : ∀ k, k < 0 → parseFieldDescriptor (TJxf0a74 k).2.2.1 = some (tyJxf0a74 k) := by decide +kernel
def RJxa66e6 : String := "java/util/SequencedCollection"
def TJxa66e6 : u_T := fun k => match k with
  | _ => ("", "", "", false)
def tyJxa66e6 : Nat → FieldType := fun k => match k with
  | _ => .int
abbrev wsJxa66e60 : List Cond := u_ws RJxa66e6 TJxa66e6 0
theorem nmJxa66e6 : ∀ a, a < 0 → ∀ b, b < 0 → a ≠ b → (TJxa66e6 a).2.1 ≠ (TJxa66e6 b).2.1 := by decide +kernel
theorem tyJxa66e6_ok : ∀ k, k < 0 → parseFieldDescriptor (TJxa66e6 k).2.2.1 = some (tyJxa66e6 k) := by decide +kernel
def RJ8 : String := "jdk/internal/util/ArraysSupport"
def TJ8 : u_T := fun k => match k with
  | _ => ("", "", "", false)
def tyJ8 : Nat → FieldType := fun k => match k with
  | _ => .int
abbrev wsJ80 : List Cond := u_ws RJ8 TJ8 0
theorem nmJ8 : ∀ a, a < 0 → ∀ b, b < 0 → a ≠ b → (TJ8 a).2.1 ≠ (TJ8 b).2.1 := by decide +kernel
theorem tyJ8_ok : ∀ k, k < 0 → parseFieldDescriptor (TJ8 k).2.2.1 = some (tyJ8 k) := by decide +kernel
abbrev cJ8_newLength_cabcc : ByteArray := prog_32_method_27_code
def yJ8_newLength_cabcc : MethodName := ⟨RJ8, "newLength", "(III)I"⟩
abbrev cJ8_hugeLength_7cf53 : ByteArray := prog_32_method_28_code
def yJ8_hugeLength_7cf53 : MethodName := ⟨RJ8, "hugeLength", "(II)I"⟩
def RJ3 : String := "jdk/internal/util/Preconditions"
def TJ3 : u_T := fun k => match k with
  | _ => ("", "", "", false)
def tyJ3 : Nat → FieldType := fun k => match k with
  | _ => .int
abbrev wsJ30 : List Cond := u_ws RJ3 TJ3 0
theorem nmJ3 : ∀ a, a < 0 → ∀ b, b < 0 → a ≠ b → (TJ3 a).2.1 ≠ (TJ3 b).2.1 := by decide +kernel
theorem tyJ3_ok : ∀ k, k < 0 → parseFieldDescriptor (TJ3 k).2.2.1 = some (tyJ3 k) := by decide +kernel
abbrev cJ3_checkIndex_8e157 : ByteArray := prog_33_method_11_code
def yJ3_checkIndex_8e157 : MethodName := ⟨RJ3, "checkIndex", "(IILjava/util/function/BiFunction;)I"⟩
def RL : String := "RejudgeHallLaw"
abbrev cL_code : ByteArray := method_3_code
def yL_code : MethodName := ⟨RL, "code", "(LRejudgeHall;II[J)I"⟩
abbrev cL_input : ByteArray := method_4_code
def yL_input : MethodName := ⟨RL, "input", "(LRejudgeHall;I[J)I"⟩
abbrev cL_run : ByteArray := method_5_code
def yL_run : MethodName := ⟨RL, "run", "(LRejudgeHall;II[J)I"⟩
abbrev cL_problem : ByteArray := method_6_code
def yL_problem : MethodName := ⟨RL, "problem", "(LRejudgeHall;II[J)I"⟩
abbrev cL_test : ByteArray := method_7_code
def yL_test : MethodName := ⟨RL, "test", "(LRejudgeHall;II[J)I"⟩
abbrev cL_points : ByteArray := method_8_code
def yL_points : MethodName := ⟨RL, "points", "(LRejudgeHall;III[J)I"⟩
abbrev cL_mend : ByteArray := method_9_code
def yL_mend : MethodName := ⟨RL, "mend", "(LRejudgeHall;II[J)I"⟩
abbrev cL_answer : ByteArray := method_10_code
def yL_answer : MethodName := ⟨RL, "answer", "(LRejudgeHall;III[J)I"⟩
abbrev cL_enter : ByteArray := method_11_code
def yL_enter : MethodName := ⟨RL, "enter", "(LRejudgeHall;II[J)I"⟩
abbrev cL_pass : ByteArray := method_12_code
def yL_pass : MethodName := ⟨RL, "pass", "(LRejudgeHall;I[J)I"⟩
abbrev cL_rejudge : ByteArray := method_13_code
def yL_rejudge : MethodName := ⟨RL, "rejudge", "(LRejudgeHall;I[J)I"⟩
abbrev cL_entry : ByteArray := method_14_code
def yL_entry : MethodName := ⟨RL, "entry", "(LRejudgeHall;II[J)I"⟩
abbrev cL_likeness : ByteArray := method_15_code
def yL_likeness : MethodName := ⟨RL, "likeness", "(LRejudgeHall;II[J)I"⟩
abbrev cL_freeze : ByteArray := method_16_code
def yL_freeze : MethodName := ⟨RL, "freeze", "(LRejudgeHall;I)I"⟩
abbrev cL_board : ByteArray := method_17_code
def yL_board : MethodName := ⟨RL, "board", "(LRejudgeHall;IZI[J)I"⟩
abbrev cL_placeAnew : ByteArray := method_18_code
def yL_placeAnew : MethodName := ⟨RL, "placeAnew", "(LRejudgeHall;I[J)I"⟩
abbrev cL_hack : ByteArray := method_19_code
def yL_hack : MethodName := ⟨RL, "hack", "(LRejudgeHall;II[J)I"⟩
abbrev cL_law : ByteArray := code
def yL_law : MethodName := ⟨RL, "law", "([I)Z"⟩
abbrev vwCl : List vw_C := [(RJx4a65c, TJx4a65c, 3), (RX0, TX0, 8), (RX1, TX1, 5), (RX2, TX2, 7), (RX3, TX3, 3), (RX4, TX4, 2), (RX5, TX5, 5), (RX6, TX6, 3), (RX7, TX7, 12), (RX8, TX8, 39)]
end
section
theorem dJ9_abs_0f7a4_0 : decode cJ9_abs_0f7a4 0 = .ok (.iload_n 0, 1) := by decide +kernel
theorem dJ9_abs_0f7a4_1 : decode cJ9_abs_0f7a4 1 = .ok (.ifCond .ge 8, 3) := by decide +kernel
theorem dJ9_abs_0f7a4_4 : decode cJ9_abs_0f7a4 4 = .ok (.iload_n 0, 1) := by decide +kernel
theorem dJ9_abs_0f7a4_5 : decode cJ9_abs_0f7a4 5 = .ok (.ineg, 1) := by decide +kernel
theorem dJ9_abs_0f7a4_6 : decode cJ9_abs_0f7a4 6 = .ok (.goto 4, 3) := by decide +kernel
theorem dJ9_abs_0f7a4_9 : decode cJ9_abs_0f7a4 9 = .ok (.iload_n 0, 1) := by decide +kernel
theorem dJ9_abs_0f7a4_10 : decode cJ9_abs_0f7a4 10 = .ok (.ireturn, 1) := by decide +kernel
theorem dJ9_max_7cf53_0 : decode cJ9_max_7cf53 0 = .ok (.iload_n 0, 1) := by decide +kernel
theorem dJ9_max_7cf53_1 : decode cJ9_max_7cf53 1 = .ok (.iload_n 1, 1) := by decide +kernel
theorem dJ9_max_7cf53_2 : decode cJ9_max_7cf53 2 = .ok (.if_icmp .lt 7, 3) := by decide +kernel
theorem dJ9_max_7cf53_5 : decode cJ9_max_7cf53 5 = .ok (.iload_n 0, 1) := by decide +kernel
theorem dJ9_max_7cf53_6 : decode cJ9_max_7cf53 6 = .ok (.goto 4, 3) := by decide +kernel
theorem dJ9_max_7cf53_9 : decode cJ9_max_7cf53 9 = .ok (.iload_n 1, 1) := by decide +kernel
theorem dJ9_max_7cf53_10 : decode cJ9_max_7cf53 10 = .ok (.ireturn, 1) := by decide +kernel
theorem dJ9_min_7cf53_0 : decode cJ9_min_7cf53 0 = .ok (.iload_n 0, 1) := by decide +kernel
theorem dJ9_min_7cf53_1 : decode cJ9_min_7cf53 1 = .ok (.iload_n 1, 1) := by decide +kernel
theorem dJ9_min_7cf53_2 : decode cJ9_min_7cf53 2 = .ok (.if_icmp .gt 7, 3) := by decide +kernel
theorem dJ9_min_7cf53_5 : decode cJ9_min_7cf53 5 = .ok (.iload_n 0, 1) := by decide +kernel
theorem dJ9_min_7cf53_6 : decode cJ9_min_7cf53 6 = .ok (.goto 4, 3) := by decide +kernel
theorem dJ9_min_7cf53_9 : decode cJ9_min_7cf53 9 = .ok (.iload_n 1, 1) := by decide +kernel
theorem dJ9_min_7cf53_10 : decode cJ9_min_7cf53 10 = .ok (.ireturn, 1) := by decide +kernel
theorem dJxa1e45_init_da8c8_0 : decode cJxa1e45_init_da8c8 0 = .ok (.aload_n 0, 1) := by decide +kernel
theorem dJxa1e45_init_da8c8_1 : decode cJxa1e45_init_da8c8 1 = .ok (.invokespecial 1, 3) := by decide +kernel
theorem dJxa1e45_init_da8c8_4 : decode cJxa1e45_init_da8c8 4 = .ok (.return_, 1) := by decide +kernel
theorem dJxc12de_init_da8c8_0 : decode cJxc12de_init_da8c8 0 = .ok (.aload_n 0, 1) := by decide +kernel
theorem dJxc12de_init_da8c8_1 : decode cJxc12de_init_da8c8 1 = .ok (.invokespecial 1, 3) := by decide +kernel
theorem dJxc12de_init_da8c8_4 : decode cJxc12de_init_da8c8 4 = .ok (.aload_n 0, 1) := by decide +kernel
theorem dJxc12de_init_da8c8_5 : decode cJxc12de_init_da8c8 5 = .ok (.iconst 0, 1) := by decide +kernel
theorem dJxc12de_init_da8c8_6 : decode cJxc12de_init_da8c8 6 = .ok (.putfield 7, 3) := by decide +kernel
theorem dJxc12de_init_da8c8_9 : decode cJxc12de_init_da8c8 9 = .ok (.return_, 1) := by decide +kernel
theorem dJx4a65c_init_da8c8_0 : decode cJx4a65c_init_da8c8 0 = .ok (.aload_n 0, 1) := by decide +kernel
theorem dJx4a65c_init_da8c8_1 : decode cJx4a65c_init_da8c8 1 = .ok (.invokespecial 1, 3) := by decide +kernel
theorem dJx4a65c_init_da8c8_4 : decode cJx4a65c_init_da8c8 4 = .ok (.aload_n 0, 1) := by decide +kernel
theorem dJx4a65c_init_da8c8_5 : decode cJx4a65c_init_da8c8 5 = .ok (.getstatic 39, 3) := by decide +kernel
theorem dJx4a65c_init_da8c8_8 : decode cJx4a65c_init_da8c8 8 = .ok (.putfield 9, 3) := by decide +kernel
theorem dJx4a65c_init_da8c8_11 : decode cJx4a65c_init_da8c8 11 = .ok (.return_, 1) := by decide +kernel
theorem dJx4a65c_grow_92f84_0 : decode cJx4a65c_grow_92f84 0 = .ok (.aload_n 0, 1) := by decide +kernel
theorem dJx4a65c_grow_92f84_1 : decode cJx4a65c_grow_92f84 1 = .ok (.getfield 9, 3) := by decide +kernel
theorem dJx4a65c_grow_92f84_4 : decode cJx4a65c_grow_92f84 4 = .ok (.arraylength, 1) := by decide +kernel
theorem dJx4a65c_grow_92f84_5 : decode cJx4a65c_grow_92f84 5 = .ok (.istore_n 2, 1) := by decide +kernel
theorem dJx4a65c_grow_92f84_6 : decode cJx4a65c_grow_92f84 6 = .ok (.iload_n 2, 1) := by decide +kernel
theorem dJx4a65c_grow_92f84_7 : decode cJx4a65c_grow_92f84 7 = .ok (.ifCond .gt 13, 3) := by decide +kernel
theorem dJx4a65c_grow_92f84_10 : decode cJx4a65c_grow_92f84 10 = .ok (.aload_n 0, 1) := by decide +kernel
theorem dJx4a65c_grow_92f84_11 : decode cJx4a65c_grow_92f84 11 = .ok (.getfield 9, 3) := by decide +kernel
theorem dJx4a65c_grow_92f84_14 : decode cJx4a65c_grow_92f84 14 = .ok (.getstatic 39, 3) := by decide +kernel
theorem dJx4a65c_grow_92f84_17 : decode cJx4a65c_grow_92f84 17 = .ok (.if_acmp .eq 28, 3) := by decide +kernel
theorem dJx4a65c_grow_92f84_20 : decode cJx4a65c_grow_92f84 20 = .ok (.iload_n 2, 1) := by decide +kernel
theorem dJx4a65c_grow_92f84_21 : decode cJx4a65c_grow_92f84 21 = .ok (.iload_n 1, 1) := by decide +kernel
theorem dJx4a65c_grow_92f84_22 : decode cJx4a65c_grow_92f84 22 = .ok (.iload_n 2, 1) := by decide +kernel
theorem dJx4a65c_grow_92f84_23 : decode cJx4a65c_grow_92f84 23 = .ok (.isub, 1) := by decide +kernel
theorem dJx4a65c_grow_92f84_24 : decode cJx4a65c_grow_92f84 24 = .ok (.iload_n 2, 1) := by decide +kernel
theorem dJx4a65c_grow_92f84_25 : decode cJx4a65c_grow_92f84 25 = .ok (.iconst 1, 1) := by decide +kernel
theorem dJx4a65c_grow_92f84_26 : decode cJx4a65c_grow_92f84 26 = .ok (.ishr, 1) := by decide +kernel
theorem dJx4a65c_grow_92f84_27 : decode cJx4a65c_grow_92f84 27 = .ok (.invokestatic 73, 3) := by decide +kernel
theorem dJx4a65c_grow_92f84_30 : decode cJx4a65c_grow_92f84 30 = .ok (.istore_n 3, 1) := by decide +kernel
theorem dJx4a65c_grow_92f84_31 : decode cJx4a65c_grow_92f84 31 = .ok (.aload_n 0, 1) := by decide +kernel
theorem dJx4a65c_grow_92f84_32 : decode cJx4a65c_grow_92f84 32 = .ok (.aload_n 0, 1) := by decide +kernel
theorem dJx4a65c_grow_92f84_33 : decode cJx4a65c_grow_92f84 33 = .ok (.getfield 9, 3) := by decide +kernel
theorem dJx4a65c_grow_92f84_36 : decode cJx4a65c_grow_92f84 36 = .ok (.iload_n 3, 1) := by decide +kernel
theorem dJx4a65c_grow_92f84_37 : decode cJx4a65c_grow_92f84 37 = .ok (.invokestatic 66, 3) := by decide +kernel
theorem dJx4a65c_grow_92f84_40 : decode cJx4a65c_grow_92f84 40 = .ok (.dup_x1, 1) := by decide +kernel
theorem dJx4a65c_grow_92f84_41 : decode cJx4a65c_grow_92f84 41 = .ok (.putfield 9, 3) := by decide +kernel
theorem dJx4a65c_grow_92f84_44 : decode cJx4a65c_grow_92f84 44 = .ok (.areturn, 1) := by decide +kernel
theorem dJx4a65c_grow_92f84_45 : decode cJx4a65c_grow_92f84 45 = .ok (.aload_n 0, 1) := by decide +kernel
theorem dJx4a65c_grow_92f84_46 : decode cJx4a65c_grow_92f84 46 = .ok (.bipush 10, 2) := by decide +kernel
theorem dJx4a65c_grow_92f84_48 : decode cJx4a65c_grow_92f84 48 = .ok (.iload_n 1, 1) := by decide +kernel
theorem dJx4a65c_grow_92f84_49 : decode cJx4a65c_grow_92f84 49 = .ok (.invokestatic 79, 3) := by decide +kernel
theorem dJx4a65c_grow_92f84_52 : decode cJx4a65c_grow_92f84 52 = .ok (.anewarray 7, 3) := by decide +kernel
theorem dJx4a65c_grow_92f84_55 : decode cJx4a65c_grow_92f84 55 = .ok (.dup_x1, 1) := by decide +kernel
theorem dJx4a65c_grow_92f84_56 : decode cJx4a65c_grow_92f84 56 = .ok (.putfield 9, 3) := by decide +kernel
theorem dJx4a65c_grow_92f84_59 : decode cJx4a65c_grow_92f84 59 = .ok (.areturn, 1) := by decide +kernel
theorem dJx4a65c_grow_d5877_0 : decode cJx4a65c_grow_d5877 0 = .ok (.aload_n 0, 1) := by decide +kernel
theorem dJx4a65c_grow_d5877_1 : decode cJx4a65c_grow_d5877 1 = .ok (.aload_n 0, 1) := by decide +kernel
theorem dJx4a65c_grow_d5877_2 : decode cJx4a65c_grow_d5877 2 = .ok (.getfield 48, 3) := by decide +kernel
theorem dJx4a65c_grow_d5877_5 : decode cJx4a65c_grow_d5877 5 = .ok (.iconst 1, 1) := by decide +kernel
theorem dJx4a65c_grow_d5877_6 : decode cJx4a65c_grow_d5877 6 = .ok (.iadd, 1) := by decide +kernel
theorem dJx4a65c_grow_d5877_7 : decode cJx4a65c_grow_d5877 7 = .ok (.invokevirtual 69, 3) := by decide +kernel
theorem dJx4a65c_grow_d5877_10 : decode cJx4a65c_grow_d5877 10 = .ok (.areturn, 1) := by decide +kernel
theorem dJx4a65c_size_8abf5_0 : decode cJx4a65c_size_8abf5 0 = .ok (.aload_n 0, 1) := by decide +kernel
theorem dJx4a65c_size_8abf5_1 : decode cJx4a65c_size_8abf5 1 = .ok (.getfield 48, 3) := by decide +kernel
theorem dJx4a65c_size_8abf5_4 : decode cJx4a65c_size_8abf5 4 = .ok (.ireturn, 1) := by decide +kernel
theorem dJx4a65c_elementData_915e3_0 : decode cJx4a65c_elementData_915e3 0 = .ok (.aload_n 0, 1) := by decide +kernel
theorem dJx4a65c_elementData_915e3_1 : decode cJx4a65c_elementData_915e3 1 = .ok (.getfield 9, 3) := by decide +kernel
theorem dJx4a65c_elementData_915e3_4 : decode cJx4a65c_elementData_915e3 4 = .ok (.iload_n 1, 1) := by decide +kernel
theorem dJx4a65c_elementData_915e3_5 : decode cJx4a65c_elementData_915e3 5 = .ok (.aaload, 1) := by decide +kernel
theorem dJx4a65c_elementData_915e3_6 : decode cJx4a65c_elementData_915e3 6 = .ok (.areturn, 1) := by decide +kernel
theorem dJx4a65c_get_915e3_0 : decode cJx4a65c_get_915e3 0 = .ok (.iload_n 1, 1) := by decide +kernel
theorem dJx4a65c_get_915e3_1 : decode cJx4a65c_get_915e3 1 = .ok (.aload_n 0, 1) := by decide +kernel
theorem dJx4a65c_get_915e3_2 : decode cJx4a65c_get_915e3 2 = .ok (.getfield 48, 3) := by decide +kernel
theorem dJx4a65c_get_915e3_5 : decode cJx4a65c_get_915e3 5 = .ok (.invokestatic 118, 3) := by decide +kernel
theorem dJx4a65c_get_915e3_8 : decode cJx4a65c_get_915e3 8 = .ok (.pop, 1) := by decide +kernel
theorem dJx4a65c_get_915e3_9 : decode cJx4a65c_get_915e3 9 = .ok (.aload_n 0, 1) := by decide +kernel
theorem dJx4a65c_get_915e3_10 : decode cJx4a65c_get_915e3 10 = .ok (.iload_n 1, 1) := by decide +kernel
theorem dJx4a65c_get_915e3_11 : decode cJx4a65c_get_915e3 11 = .ok (.invokevirtual 123, 3) := by decide +kernel
theorem dJx4a65c_get_915e3_14 : decode cJx4a65c_get_915e3 14 = .ok (.areturn, 1) := by decide +kernel
theorem dJx4a65c_add_72be8_0 : decode cJx4a65c_add_72be8 0 = .ok (.iload_n 3, 1) := by decide +kernel
theorem dJx4a65c_add_72be8_1 : decode cJx4a65c_add_72be8 1 = .ok (.aload_n 2, 1) := by decide +kernel
theorem dJx4a65c_add_72be8_2 : decode cJx4a65c_add_72be8 2 = .ok (.arraylength, 1) := by decide +kernel
theorem dJx4a65c_add_72be8_3 : decode cJx4a65c_add_72be8 3 = .ok (.if_icmp .ne 8, 3) := by decide +kernel
theorem dJx4a65c_add_72be8_6 : decode cJx4a65c_add_72be8 6 = .ok (.aload_n 0, 1) := by decide +kernel
theorem dJx4a65c_add_72be8_7 : decode cJx4a65c_add_72be8 7 = .ok (.invokevirtual 129, 3) := by decide +kernel
theorem dJx4a65c_add_72be8_10 : decode cJx4a65c_add_72be8 10 = .ok (.astore_n 2, 1) := by decide +kernel
theorem dJx4a65c_add_72be8_11 : decode cJx4a65c_add_72be8 11 = .ok (.aload_n 2, 1) := by decide +kernel
theorem dJx4a65c_add_72be8_12 : decode cJx4a65c_add_72be8 12 = .ok (.iload_n 3, 1) := by decide +kernel
theorem dJx4a65c_add_72be8_13 : decode cJx4a65c_add_72be8 13 = .ok (.aload_n 1, 1) := by decide +kernel
theorem dJx4a65c_add_72be8_14 : decode cJx4a65c_add_72be8 14 = .ok (.aastore, 1) := by decide +kernel
theorem dJx4a65c_add_72be8_15 : decode cJx4a65c_add_72be8 15 = .ok (.aload_n 0, 1) := by decide +kernel
theorem dJx4a65c_add_72be8_16 : decode cJx4a65c_add_72be8 16 = .ok (.iload_n 3, 1) := by decide +kernel
theorem dJx4a65c_add_72be8_17 : decode cJx4a65c_add_72be8 17 = .ok (.iconst 1, 1) := by decide +kernel
theorem dJx4a65c_add_72be8_18 : decode cJx4a65c_add_72be8 18 = .ok (.iadd, 1) := by decide +kernel
theorem dJx4a65c_add_72be8_19 : decode cJx4a65c_add_72be8 19 = .ok (.putfield 48, 3) := by decide +kernel
theorem dJx4a65c_add_72be8_22 : decode cJx4a65c_add_72be8 22 = .ok (.return_, 1) := by decide +kernel
theorem dJx4a65c_add_9ea2d_0 : decode cJx4a65c_add_9ea2d 0 = .ok (.aload_n 0, 1) := by decide +kernel
theorem dJx4a65c_add_9ea2d_1 : decode cJx4a65c_add_9ea2d 1 = .ok (.dup, 1) := by decide +kernel
theorem dJx4a65c_add_9ea2d_2 : decode cJx4a65c_add_9ea2d 2 = .ok (.getfield 63, 3) := by decide +kernel
theorem dJx4a65c_add_9ea2d_5 : decode cJx4a65c_add_9ea2d 5 = .ok (.iconst 1, 1) := by decide +kernel
theorem dJx4a65c_add_9ea2d_6 : decode cJx4a65c_add_9ea2d 6 = .ok (.iadd, 1) := by decide +kernel
theorem dJx4a65c_add_9ea2d_7 : decode cJx4a65c_add_9ea2d 7 = .ok (.putfield 63, 3) := by decide +kernel
theorem dJx4a65c_add_9ea2d_10 : decode cJx4a65c_add_9ea2d 10 = .ok (.aload_n 0, 1) := by decide +kernel
theorem dJx4a65c_add_9ea2d_11 : decode cJx4a65c_add_9ea2d 11 = .ok (.aload_n 1, 1) := by decide +kernel
theorem dJx4a65c_add_9ea2d_12 : decode cJx4a65c_add_9ea2d 12 = .ok (.aload_n 0, 1) := by decide +kernel
theorem dJx4a65c_add_9ea2d_13 : decode cJx4a65c_add_9ea2d 13 = .ok (.getfield 9, 3) := by decide +kernel
theorem dJx4a65c_add_9ea2d_16 : decode cJx4a65c_add_9ea2d 16 = .ok (.aload_n 0, 1) := by decide +kernel
theorem dJx4a65c_add_9ea2d_17 : decode cJx4a65c_add_9ea2d 17 = .ok (.getfield 48, 3) := by decide +kernel
theorem dJx4a65c_add_9ea2d_20 : decode cJx4a65c_add_9ea2d 20 = .ok (.invokevirtual 131, 3) := by decide +kernel
theorem dJx4a65c_add_9ea2d_23 : decode cJx4a65c_add_9ea2d 23 = .ok (.iconst 1, 1) := by decide +kernel
theorem dJx4a65c_add_9ea2d_24 : decode cJx4a65c_add_9ea2d 24 = .ok (.ireturn, 1) := by decide +kernel
theorem dJ7_fill_53178_0 : decode cJ7_fill_53178 0 = .ok (.iconst 0, 1) := by decide +kernel
theorem dJ7_fill_53178_1 : decode cJ7_fill_53178 1 = .ok (.istore_n 2, 1) := by decide +kernel
theorem dJ7_fill_53178_2 : decode cJ7_fill_53178 2 = .ok (.aload_n 0, 1) := by decide +kernel
theorem dJ7_fill_53178_3 : decode cJ7_fill_53178 3 = .ok (.arraylength, 1) := by decide +kernel
theorem dJ7_fill_53178_4 : decode cJ7_fill_53178 4 = .ok (.istore_n 3, 1) := by decide +kernel
theorem dJ7_fill_53178_5 : decode cJ7_fill_53178 5 = .ok (.iload_n 2, 1) := by decide +kernel
theorem dJ7_fill_53178_6 : decode cJ7_fill_53178 6 = .ok (.iload_n 3, 1) := by decide +kernel
theorem dJ7_fill_53178_7 : decode cJ7_fill_53178 7 = .ok (.if_icmp .ge 13, 3) := by decide +kernel
theorem dJ7_fill_53178_10 : decode cJ7_fill_53178 10 = .ok (.aload_n 0, 1) := by decide +kernel
theorem dJ7_fill_53178_11 : decode cJ7_fill_53178 11 = .ok (.iload_n 2, 1) := by decide +kernel
theorem dJ7_fill_53178_12 : decode cJ7_fill_53178 12 = .ok (.iload_n 1, 1) := by decide +kernel
theorem dJ7_fill_53178_13 : decode cJ7_fill_53178 13 = .ok (.iastore, 1) := by decide +kernel
theorem dJ7_fill_53178_14 : decode cJ7_fill_53178 14 = .ok (.iinc 2 1, 3) := by decide +kernel
theorem dJ7_fill_53178_17 : decode cJ7_fill_53178 17 = .ok (.goto (-12), 3) := by decide +kernel
theorem dJ7_fill_53178_20 : decode cJ7_fill_53178 20 = .ok (.return_, 1) := by decide +kernel
theorem dJ7_copyOf_1904c_0 : decode cJ7_copyOf_1904c 0 = .ok (.aload_n 0, 1) := by decide +kernel
theorem dJ7_copyOf_1904c_1 : decode cJ7_copyOf_1904c 1 = .ok (.iload_n 1, 1) := by decide +kernel
theorem dJ7_copyOf_1904c_2 : decode cJ7_copyOf_1904c 2 = .ok (.aload_n 0, 1) := by decide +kernel
theorem dJ7_copyOf_1904c_3 : decode cJ7_copyOf_1904c 3 = .ok (.invokevirtual 86, 3) := by decide +kernel
theorem dJ7_copyOf_1904c_6 : decode cJ7_copyOf_1904c 6 = .ok (.invokestatic 300, 3) := by decide +kernel
theorem dJ7_copyOf_1904c_9 : decode cJ7_copyOf_1904c 9 = .ok (.areturn, 1) := by decide +kernel
theorem dJ7_copyOf_6403c_0 : decode cJ7_copyOf_6403c 0 = .ok (.aload_n 2, 1) := by decide +kernel
theorem dJ7_copyOf_6403c_1 : decode cJ7_copyOf_6403c 1 = .ok (.ldc 110, 2) := by decide +kernel
theorem dJ7_copyOf_6403c_3 : decode cJ7_copyOf_6403c 3 = .ok (.if_acmp .ne 10, 3) := by decide +kernel
theorem dJ7_copyOf_6403c_6 : decode cJ7_copyOf_6403c 6 = .ok (.iload_n 1, 1) := by decide +kernel
theorem dJ7_copyOf_6403c_7 : decode cJ7_copyOf_6403c 7 = .ok (.anewarray 2, 3) := by decide +kernel
theorem dJ7_copyOf_6403c_10 : decode cJ7_copyOf_6403c 10 = .ok (.goto 14, 3) := by decide +kernel
theorem dJ7_copyOf_6403c_13 : decode cJ7_copyOf_6403c 13 = .ok (.aload_n 2, 1) := by decide +kernel
theorem dJ7_copyOf_6403c_14 : decode cJ7_copyOf_6403c 14 = .ok (.invokevirtual 90, 3) := by decide +kernel
theorem dJ7_copyOf_6403c_17 : decode cJ7_copyOf_6403c 17 = .ok (.iload_n 1, 1) := by decide +kernel
theorem dJ7_copyOf_6403c_18 : decode cJ7_copyOf_6403c 18 = .ok (.invokestatic 95, 3) := by decide +kernel
theorem dJ7_copyOf_6403c_21 : decode cJ7_copyOf_6403c 21 = .ok (.checkcast 110, 3) := by decide +kernel
theorem dJ7_copyOf_6403c_24 : decode cJ7_copyOf_6403c 24 = .ok (.astore_n 3, 1) := by decide +kernel
theorem dJ7_copyOf_6403c_25 : decode cJ7_copyOf_6403c 25 = .ok (.aload_n 0, 1) := by decide +kernel
theorem dJ7_copyOf_6403c_26 : decode cJ7_copyOf_6403c 26 = .ok (.iconst 0, 1) := by decide +kernel
theorem dJ7_copyOf_6403c_27 : decode cJ7_copyOf_6403c 27 = .ok (.aload_n 3, 1) := by decide +kernel
theorem dJ7_copyOf_6403c_28 : decode cJ7_copyOf_6403c 28 = .ok (.iconst 0, 1) := by decide +kernel
theorem dJ7_copyOf_6403c_29 : decode cJ7_copyOf_6403c 29 = .ok (.aload_n 0, 1) := by decide +kernel
theorem dJ7_copyOf_6403c_30 : decode cJ7_copyOf_6403c 30 = .ok (.arraylength, 1) := by decide +kernel
theorem dJ7_copyOf_6403c_31 : decode cJ7_copyOf_6403c 31 = .ok (.iload_n 1, 1) := by decide +kernel
theorem dJ7_copyOf_6403c_32 : decode cJ7_copyOf_6403c 32 = .ok (.invokestatic 304, 3) := by decide +kernel
theorem dJ7_copyOf_6403c_35 : decode cJ7_copyOf_6403c 35 = .ok (.invokestatic 150, 3) := by decide +kernel
theorem dJ7_copyOf_6403c_38 : decode cJ7_copyOf_6403c 38 = .ok (.aload_n 3, 1) := by decide +kernel
theorem dJ7_copyOf_6403c_39 : decode cJ7_copyOf_6403c 39 = .ok (.areturn, 1) := by decide +kernel
theorem dJ15_checkIndex_7cf53_0 : decode cJ15_checkIndex_7cf53 0 = .ok (.iload_n 0, 1) := by decide +kernel
theorem dJ15_checkIndex_7cf53_1 : decode cJ15_checkIndex_7cf53 1 = .ok (.iload_n 1, 1) := by decide +kernel
theorem dJ15_checkIndex_7cf53_2 : decode cJ15_checkIndex_7cf53 2 = .ok (.aconst_null, 1) := by decide +kernel
theorem dJ15_checkIndex_7cf53_3 : decode cJ15_checkIndex_7cf53 3 = .ok (.invokestatic 105, 3) := by decide +kernel
theorem dJ15_checkIndex_7cf53_6 : decode cJ15_checkIndex_7cf53 6 = .ok (.ireturn, 1) := by decide +kernel
theorem dJ8_newLength_cabcc_0 : decode cJ8_newLength_cabcc 0 = .ok (.iload_n 0, 1) := by decide +kernel
theorem dJ8_newLength_cabcc_1 : decode cJ8_newLength_cabcc 1 = .ok (.iload_n 1, 1) := by decide +kernel
theorem dJ8_newLength_cabcc_2 : decode cJ8_newLength_cabcc 2 = .ok (.iload_n 2, 1) := by decide +kernel
theorem dJ8_newLength_cabcc_3 : decode cJ8_newLength_cabcc 3 = .ok (.invokestatic 194, 3) := by decide +kernel
theorem dJ8_newLength_cabcc_6 : decode cJ8_newLength_cabcc 6 = .ok (.iadd, 1) := by decide +kernel
theorem dJ8_newLength_cabcc_7 : decode cJ8_newLength_cabcc 7 = .ok (.istore_n 3, 1) := by decide +kernel
theorem dJ8_newLength_cabcc_8 : decode cJ8_newLength_cabcc 8 = .ok (.iconst 0, 1) := by decide +kernel
theorem dJ8_newLength_cabcc_9 : decode cJ8_newLength_cabcc 9 = .ok (.iload_n 3, 1) := by decide +kernel
theorem dJ8_newLength_cabcc_10 : decode cJ8_newLength_cabcc 10 = .ok (.if_icmp .ge 11, 3) := by decide +kernel
theorem dJ8_newLength_cabcc_13 : decode cJ8_newLength_cabcc 13 = .ok (.iload_n 3, 1) := by decide +kernel
theorem dJ8_newLength_cabcc_14 : decode cJ8_newLength_cabcc 14 = .ok (.ldc 200, 2) := by decide +kernel
theorem dJ8_newLength_cabcc_16 : decode cJ8_newLength_cabcc 16 = .ok (.if_icmp .gt 5, 3) := by decide +kernel
theorem dJ8_newLength_cabcc_19 : decode cJ8_newLength_cabcc 19 = .ok (.iload_n 3, 1) := by decide +kernel
theorem dJ8_newLength_cabcc_20 : decode cJ8_newLength_cabcc 20 = .ok (.ireturn, 1) := by decide +kernel
theorem dJ8_newLength_cabcc_21 : decode cJ8_newLength_cabcc 21 = .ok (.iload_n 0, 1) := by decide +kernel
theorem dJ8_newLength_cabcc_22 : decode cJ8_newLength_cabcc 22 = .ok (.iload_n 1, 1) := by decide +kernel
theorem dJ8_newLength_cabcc_23 : decode cJ8_newLength_cabcc 23 = .ok (.invokestatic 201, 3) := by decide +kernel
theorem dJ8_newLength_cabcc_26 : decode cJ8_newLength_cabcc 26 = .ok (.ireturn, 1) := by decide +kernel
theorem dJ8_hugeLength_7cf53_0 : decode cJ8_hugeLength_7cf53 0 = .ok (.iload_n 0, 1) := by decide +kernel
theorem dJ8_hugeLength_7cf53_1 : decode cJ8_hugeLength_7cf53 1 = .ok (.iload_n 1, 1) := by decide +kernel
theorem dJ8_hugeLength_7cf53_2 : decode cJ8_hugeLength_7cf53 2 = .ok (.iadd, 1) := by decide +kernel
theorem dJ8_hugeLength_7cf53_3 : decode cJ8_hugeLength_7cf53 3 = .ok (.istore_n 2, 1) := by decide +kernel
theorem dJ8_hugeLength_7cf53_4 : decode cJ8_hugeLength_7cf53 4 = .ok (.iload_n 2, 1) := by decide +kernel
theorem dJ8_hugeLength_7cf53_5 : decode cJ8_hugeLength_7cf53 5 = .ok (.ifCond .ge 44, 3) := by decide +kernel
theorem dJ8_hugeLength_7cf53_8 : decode cJ8_hugeLength_7cf53 8 = .ok (.new 204, 3) := by decide +kernel
theorem dJ8_hugeLength_7cf53_11 : decode cJ8_hugeLength_7cf53 11 = .ok (.dup, 1) := by decide +kernel
theorem dJ8_hugeLength_7cf53_12 : decode cJ8_hugeLength_7cf53 12 = .ok (.new 89, 3) := by decide +kernel
theorem dJ8_hugeLength_7cf53_15 : decode cJ8_hugeLength_7cf53 15 = .ok (.dup, 1) := by decide +kernel
theorem dJ8_hugeLength_7cf53_16 : decode cJ8_hugeLength_7cf53 16 = .ok (.invokespecial 91, 3) := by decide +kernel
theorem dJ8_hugeLength_7cf53_19 : decode cJ8_hugeLength_7cf53 19 = .ok (.ldc 206, 2) := by decide +kernel
theorem dJ8_hugeLength_7cf53_21 : decode cJ8_hugeLength_7cf53 21 = .ok (.invokevirtual 94, 3) := by decide +kernel
theorem dJ8_hugeLength_7cf53_24 : decode cJ8_hugeLength_7cf53 24 = .ok (.iload_n 0, 1) := by decide +kernel
theorem dJ8_hugeLength_7cf53_25 : decode cJ8_hugeLength_7cf53 25 = .ok (.invokevirtual 98, 3) := by decide +kernel
theorem dJ8_hugeLength_7cf53_28 : decode cJ8_hugeLength_7cf53 28 = .ok (.ldc 208, 2) := by decide +kernel
theorem dJ8_hugeLength_7cf53_30 : decode cJ8_hugeLength_7cf53 30 = .ok (.invokevirtual 94, 3) := by decide +kernel
theorem dJ8_hugeLength_7cf53_33 : decode cJ8_hugeLength_7cf53 33 = .ok (.iload_n 1, 1) := by decide +kernel
theorem dJ8_hugeLength_7cf53_34 : decode cJ8_hugeLength_7cf53 34 = .ok (.invokevirtual 98, 3) := by decide +kernel
theorem dJ8_hugeLength_7cf53_37 : decode cJ8_hugeLength_7cf53 37 = .ok (.ldc 210, 2) := by decide +kernel
theorem dJ8_hugeLength_7cf53_39 : decode cJ8_hugeLength_7cf53 39 = .ok (.invokevirtual 94, 3) := by decide +kernel
theorem dJ8_hugeLength_7cf53_42 : decode cJ8_hugeLength_7cf53 42 = .ok (.invokevirtual 101, 3) := by decide +kernel
theorem dJ8_hugeLength_7cf53_45 : decode cJ8_hugeLength_7cf53 45 = .ok (.invokespecial 212, 3) := by decide +kernel
theorem dJ8_hugeLength_7cf53_48 : decode cJ8_hugeLength_7cf53 48 = .ok (.athrow, 1) := by decide +kernel
theorem dJ8_hugeLength_7cf53_49 : decode cJ8_hugeLength_7cf53 49 = .ok (.iload_n 2, 1) := by decide +kernel
theorem dJ8_hugeLength_7cf53_50 : decode cJ8_hugeLength_7cf53 50 = .ok (.ldc 200, 2) := by decide +kernel
theorem dJ8_hugeLength_7cf53_52 : decode cJ8_hugeLength_7cf53 52 = .ok (.if_icmp .gt 6, 3) := by decide +kernel
theorem dJ8_hugeLength_7cf53_55 : decode cJ8_hugeLength_7cf53 55 = .ok (.ldc 200, 2) := by decide +kernel
theorem dJ8_hugeLength_7cf53_57 : decode cJ8_hugeLength_7cf53 57 = .ok (.ireturn, 1) := by decide +kernel
theorem dJ8_hugeLength_7cf53_58 : decode cJ8_hugeLength_7cf53 58 = .ok (.iload_n 2, 1) := by decide +kernel
theorem dJ8_hugeLength_7cf53_59 : decode cJ8_hugeLength_7cf53 59 = .ok (.ireturn, 1) := by decide +kernel
theorem dJ3_checkIndex_8e157_0 : decode cJ3_checkIndex_8e157 0 = .ok (.iload_n 0, 1) := by decide +kernel
theorem dJ3_checkIndex_8e157_1 : decode cJ3_checkIndex_8e157 1 = .ok (.ifCond .lt 8, 3) := by decide +kernel
theorem dJ3_checkIndex_8e157_4 : decode cJ3_checkIndex_8e157 4 = .ok (.iload_n 0, 1) := by decide +kernel
theorem dJ3_checkIndex_8e157_5 : decode cJ3_checkIndex_8e157 5 = .ok (.iload_n 1, 1) := by decide +kernel
theorem dJ3_checkIndex_8e157_6 : decode cJ3_checkIndex_8e157 6 = .ok (.if_icmp .lt 10, 3) := by decide +kernel
theorem dJ3_checkIndex_8e157_9 : decode cJ3_checkIndex_8e157 9 = .ok (.aload_n 2, 1) := by decide +kernel
theorem dJ3_checkIndex_8e157_10 : decode cJ3_checkIndex_8e157 10 = .ok (.iload_n 0, 1) := by decide +kernel
theorem dJ3_checkIndex_8e157_11 : decode cJ3_checkIndex_8e157 11 = .ok (.iload_n 1, 1) := by decide +kernel
theorem dJ3_checkIndex_8e157_12 : decode cJ3_checkIndex_8e157 12 = .ok (.invokestatic 95, 3) := by decide +kernel
theorem dJ3_checkIndex_8e157_15 : decode cJ3_checkIndex_8e157 15 = .ok (.athrow, 1) := by decide +kernel
theorem dJ3_checkIndex_8e157_16 : decode cJ3_checkIndex_8e157 16 = .ok (.iload_n 0, 1) := by decide +kernel
theorem dJ3_checkIndex_8e157_17 : decode cJ3_checkIndex_8e157 17 = .ok (.ireturn, 1) := by decide +kernel
theorem dX0_init_0 : decode cX0_init 0 = .ok (.aload_n 0, 1) := by decide +kernel
theorem dX0_init_1 : decode cX0_init 1 = .ok (.invokespecial 3, 3) := by decide +kernel
theorem dX0_init_4 : decode cX0_init 4 = .ok (.aload_n 0, 1) := by decide +kernel
theorem dX0_init_5 : decode cX0_init 5 = .ok (.new 9, 3) := by decide +kernel
theorem dX0_init_8 : decode cX0_init 8 = .ok (.dup, 1) := by decide +kernel
theorem dX0_init_9 : decode cX0_init 9 = .ok (.invokespecial 11, 3) := by decide +kernel
theorem dX0_init_12 : decode cX0_init 12 = .ok (.putfield 12, 3) := by decide +kernel
theorem dX0_init_15 : decode cX0_init 15 = .ok (.aload_n 0, 1) := by decide +kernel
theorem dX0_init_16 : decode cX0_init 16 = .ok (.iconst (-1), 1) := by decide +kernel
theorem dX0_init_17 : decode cX0_init 17 = .ok (.putfield 18, 3) := by decide +kernel
theorem dX0_init_20 : decode cX0_init 20 = .ok (.aload_n 0, 1) := by decide +kernel
theorem dX0_init_21 : decode cX0_init 21 = .ok (.iconst (-1), 1) := by decide +kernel
theorem dX0_init_22 : decode cX0_init 22 = .ok (.putfield 22, 3) := by decide +kernel
theorem dX0_init_25 : decode cX0_init 25 = .ok (.aload_n 0, 1) := by decide +kernel
theorem dX0_init_26 : decode cX0_init 26 = .ok (.iconst 0, 1) := by decide +kernel
theorem dX0_init_27 : decode cX0_init 27 = .ok (.putfield 25, 3) := by decide +kernel
theorem dX0_init_30 : decode cX0_init 30 = .ok (.aload_n 0, 1) := by decide +kernel
theorem dX0_init_31 : decode cX0_init 31 = .ok (.iconst (-1), 1) := by decide +kernel
theorem dX0_init_32 : decode cX0_init 32 = .ok (.putfield 28, 3) := by decide +kernel
theorem dX0_init_35 : decode cX0_init 35 = .ok (.aload_n 0, 1) := by decide +kernel
theorem dX0_init_36 : decode cX0_init 36 = .ok (.iload_n 1, 1) := by decide +kernel
theorem dX0_init_37 : decode cX0_init 37 = .ok (.putfield 31, 3) := by decide +kernel
theorem dX0_init_40 : decode cX0_init 40 = .ok (.aload_n 0, 1) := by decide +kernel
theorem dX0_init_41 : decode cX0_init 41 = .ok (.aload_n 2, 1) := by decide +kernel
theorem dX0_init_42 : decode cX0_init 42 = .ok (.putfield 34, 3) := by decide +kernel
theorem dX0_init_45 : decode cX0_init 45 = .ok (.aload_n 0, 1) := by decide +kernel
theorem dX0_init_46 : decode cX0_init 46 = .ok (.iload_n 3, 1) := by decide +kernel
theorem dX0_init_47 : decode cX0_init 47 = .ok (.putfield 38, 3) := by decide +kernel
theorem dX0_init_50 : decode cX0_init 50 = .ok (.return_, 1) := by decide +kernel
theorem dX0_waits_0 : decode cX0_waits 0 = .ok (.aload_n 0, 1) := by decide +kernel
theorem dX0_waits_1 : decode cX0_waits 1 = .ok (.getfield 18, 3) := by decide +kernel
theorem dX0_waits_4 : decode cX0_waits 4 = .ok (.iconst (-1), 1) := by decide +kernel
theorem dX0_waits_5 : decode cX0_waits 5 = .ok (.if_icmp .ne 7, 3) := by decide +kernel
theorem dX0_waits_8 : decode cX0_waits 8 = .ok (.iconst 1, 1) := by decide +kernel
theorem dX0_waits_9 : decode cX0_waits 9 = .ok (.goto 4, 3) := by decide +kernel
theorem dX0_waits_12 : decode cX0_waits 12 = .ok (.iconst 0, 1) := by decide +kernel
theorem dX0_waits_13 : decode cX0_waits 13 = .ok (.ireturn, 1) := by decide +kernel
theorem dX0_letWait_0 : decode cX0_letWait 0 = .ok (.aload_n 0, 1) := by decide +kernel
theorem dX0_letWait_1 : decode cX0_letWait 1 = .ok (.iconst (-1), 1) := by decide +kernel
theorem dX0_letWait_2 : decode cX0_letWait 2 = .ok (.putfield 18, 3) := by decide +kernel
theorem dX0_letWait_5 : decode cX0_letWait 5 = .ok (.aload_n 0, 1) := by decide +kernel
theorem dX0_letWait_6 : decode cX0_letWait 6 = .ok (.iconst (-1), 1) := by decide +kernel
theorem dX0_letWait_7 : decode cX0_letWait 7 = .ok (.putfield 22, 3) := by decide +kernel
theorem dX0_letWait_10 : decode cX0_letWait 10 = .ok (.aload_n 0, 1) := by decide +kernel
theorem dX0_letWait_11 : decode cX0_letWait 11 = .ok (.iconst 0, 1) := by decide +kernel
theorem dX0_letWait_12 : decode cX0_letWait 12 = .ok (.putfield 25, 3) := by decide +kernel
theorem dX0_letWait_15 : decode cX0_letWait 15 = .ok (.aload_n 0, 1) := by decide +kernel
theorem dX0_letWait_16 : decode cX0_letWait 16 = .ok (.iconst (-1), 1) := by decide +kernel
theorem dX0_letWait_17 : decode cX0_letWait 17 = .ok (.putfield 28, 3) := by decide +kernel
theorem dX0_letWait_20 : decode cX0_letWait 20 = .ok (.return_, 1) := by decide +kernel
theorem dX1_init_0 : decode cX1_init 0 = .ok (.aload_n 0, 1) := by decide +kernel
theorem dX1_init_1 : decode cX1_init 1 = .ok (.invokespecial 3, 3) := by decide +kernel
theorem dX1_init_4 : decode cX1_init 4 = .ok (.aload_n 0, 1) := by decide +kernel
theorem dX1_init_5 : decode cX1_init 5 = .ok (.new 9, 3) := by decide +kernel
theorem dX1_init_8 : decode cX1_init 8 = .ok (.dup, 1) := by decide +kernel
theorem dX1_init_9 : decode cX1_init 9 = .ok (.invokespecial 11, 3) := by decide +kernel
theorem dX1_init_12 : decode cX1_init 12 = .ok (.putfield 12, 3) := by decide +kernel
theorem dX1_init_15 : decode cX1_init 15 = .ok (.aload_n 0, 1) := by decide +kernel
theorem dX1_init_16 : decode cX1_init 16 = .ok (.new 9, 3) := by decide +kernel
theorem dX1_init_19 : decode cX1_init 19 = .ok (.dup, 1) := by decide +kernel
theorem dX1_init_20 : decode cX1_init 20 = .ok (.invokespecial 11, 3) := by decide +kernel
theorem dX1_init_23 : decode cX1_init 23 = .ok (.putfield 18, 3) := by decide +kernel
theorem dX1_init_26 : decode cX1_init 26 = .ok (.aload_n 0, 1) := by decide +kernel
theorem dX1_init_27 : decode cX1_init 27 = .ok (.iconst 0, 1) := by decide +kernel
theorem dX1_init_28 : decode cX1_init 28 = .ok (.putfield 21, 3) := by decide +kernel
theorem dX1_init_31 : decode cX1_init 31 = .ok (.aload_n 0, 1) := by decide +kernel
theorem dX1_init_32 : decode cX1_init 32 = .ok (.iconst 0, 1) := by decide +kernel
theorem dX1_init_33 : decode cX1_init 33 = .ok (.putfield 25, 3) := by decide +kernel
theorem dX1_init_36 : decode cX1_init 36 = .ok (.aload_n 0, 1) := by decide +kernel
theorem dX1_init_37 : decode cX1_init 37 = .ok (.iconst 0, 1) := by decide +kernel
theorem dX1_init_38 : decode cX1_init 38 = .ok (.putfield 28, 3) := by decide +kernel
theorem dX1_init_41 : decode cX1_init 41 = .ok (.return_, 1) := by decide +kernel
theorem dX1_execute_0 : decode cX1_execute 0 = .ok (.aload_n 0, 1) := by decide +kernel
theorem dX1_execute_1 : decode cX1_execute 1 = .ok (.getfield 12, 3) := by decide +kernel
theorem dX1_execute_4 : decode cX1_execute 4 = .ok (.iconst 0, 1) := by decide +kernel
theorem dX1_execute_5 : decode cX1_execute 5 = .ok (.putfield 31, 3) := by decide +kernel
theorem dX1_execute_8 : decode cX1_execute 8 = .ok (.aload_n 0, 1) := by decide +kernel
theorem dX1_execute_9 : decode cX1_execute 9 = .ok (.getfield 18, 3) := by decide +kernel
theorem dX1_execute_12 : decode cX1_execute 12 = .ok (.iconst 0, 1) := by decide +kernel
theorem dX1_execute_13 : decode cX1_execute 13 = .ok (.putfield 31, 3) := by decide +kernel
theorem dX1_execute_16 : decode cX1_execute 16 = .ok (.aload_n 0, 1) := by decide +kernel
theorem dX1_execute_17 : decode cX1_execute 17 = .ok (.iconst 0, 1) := by decide +kernel
theorem dX1_execute_18 : decode cX1_execute 18 = .ok (.putfield 21, 3) := by decide +kernel
theorem dX1_execute_21 : decode cX1_execute 21 = .ok (.aload_n 0, 1) := by decide +kernel
theorem dX1_execute_22 : decode cX1_execute 22 = .ok (.iconst 0, 1) := by decide +kernel
theorem dX1_execute_23 : decode cX1_execute 23 = .ok (.putfield 25, 3) := by decide +kernel
theorem dX1_execute_26 : decode cX1_execute 26 = .ok (.aload_n 0, 1) := by decide +kernel
theorem dX1_execute_27 : decode cX1_execute 27 = .ok (.iconst 0, 1) := by decide +kernel
theorem dX1_execute_28 : decode cX1_execute 28 = .ok (.putfield 28, 3) := by decide +kernel
theorem dX1_execute_31 : decode cX1_execute 31 = .ok (.aload_n 0, 1) := by decide +kernel
theorem dX1_execute_32 : decode cX1_execute 32 = .ok (.getfield 25, 3) := by decide +kernel
theorem dX1_execute_35 : decode cX1_execute 35 = .ok (.aload_n 1, 1) := by decide +kernel
theorem dX1_execute_36 : decode cX1_execute 36 = .ok (.getfield 34, 3) := by decide +kernel
theorem dX1_execute_39 : decode cX1_execute 39 = .ok (.if_icmp .eq 40, 3) := by decide +kernel
theorem dX1_execute_42 : decode cX1_execute 42 = .ok (.aload_n 0, 1) := by decide +kernel
theorem dX1_execute_43 : decode cX1_execute 43 = .ok (.getfield 21, 3) := by decide +kernel
theorem dX1_execute_46 : decode cX1_execute 46 = .ok (.iload_n 3, 1) := by decide +kernel
theorem dX1_execute_47 : decode cX1_execute 47 = .ok (.if_icmp .ge 32, 3) := by decide +kernel
theorem dX1_execute_50 : decode cX1_execute 50 = .ok (.aload_n 0, 1) := by decide +kernel
theorem dX1_execute_51 : decode cX1_execute 51 = .ok (.dup, 1) := by decide +kernel
theorem dX1_execute_52 : decode cX1_execute 52 = .ok (.getfield 21, 3) := by decide +kernel
theorem dX1_execute_55 : decode cX1_execute 55 = .ok (.iconst 1, 1) := by decide +kernel
theorem dX1_execute_56 : decode cX1_execute 56 = .ok (.iadd, 1) := by decide +kernel
theorem dX1_execute_57 : decode cX1_execute 57 = .ok (.putfield 21, 3) := by decide +kernel
theorem dX1_execute_60 : decode cX1_execute 60 = .ok (.aload_n 0, 1) := by decide +kernel
theorem dX1_execute_61 : decode cX1_execute 61 = .ok (.aload_n 1, 1) := by decide +kernel
theorem dX1_execute_62 : decode cX1_execute 62 = .ok (.aload_n 2, 1) := by decide +kernel
theorem dX1_execute_63 : decode cX1_execute 63 = .ok (.invokevirtual 37, 3) := by decide +kernel
theorem dX1_execute_66 : decode cX1_execute 66 = .ok (.istore 4, 2) := by decide +kernel
theorem dX1_execute_68 : decode cX1_execute 68 = .ok (.iload 4, 2) := by decide +kernel
theorem dX1_execute_70 : decode cX1_execute 70 = .ok (.ifCond .eq 6, 3) := by decide +kernel
theorem dX1_execute_73 : decode cX1_execute 73 = .ok (.iload 4, 2) := by decide +kernel
theorem dX1_execute_75 : decode cX1_execute 75 = .ok (.ireturn, 1) := by decide +kernel
theorem dX1_execute_76 : decode cX1_execute 76 = .ok (.goto (-45), 3) := by decide +kernel
theorem dX1_execute_79 : decode cX1_execute 79 = .ok (.aload_n 0, 1) := by decide +kernel
theorem dX1_execute_80 : decode cX1_execute 80 = .ok (.getfield 25, 3) := by decide +kernel
theorem dX1_execute_83 : decode cX1_execute 83 = .ok (.aload_n 1, 1) := by decide +kernel
theorem dX1_execute_84 : decode cX1_execute 84 = .ok (.getfield 34, 3) := by decide +kernel
theorem dX1_execute_87 : decode cX1_execute 87 = .ok (.if_icmp .ne 7, 3) := by decide +kernel
theorem dX1_execute_90 : decode cX1_execute 90 = .ok (.iconst 0, 1) := by decide +kernel
theorem dX1_execute_91 : decode cX1_execute 91 = .ok (.goto 4, 3) := by decide +kernel
theorem dX1_execute_94 : decode cX1_execute 94 = .ok (.iconst 2, 1) := by decide +kernel
theorem dX1_execute_95 : decode cX1_execute 95 = .ok (.ireturn, 1) := by decide +kernel
theorem dX1_step_0 : decode cX1_step 0 = .ok (.aload_n 1, 1) := by decide +kernel
theorem dX1_step_1 : decode cX1_step 1 = .ok (.aload_n 0, 1) := by decide +kernel
theorem dX1_step_2 : decode cX1_step 2 = .ok (.getfield 25, 3) := by decide +kernel
theorem dX1_step_5 : decode cX1_step 5 = .ok (.invokevirtual 41, 3) := by decide +kernel
theorem dX1_step_8 : decode cX1_step 8 = .ok (.ifCond .ne 5, 3) := by decide +kernel
theorem dX1_step_11 : decode cX1_step 11 = .ok (.iconst 4, 1) := by decide +kernel
theorem dX1_step_12 : decode cX1_step 12 = .ok (.ireturn, 1) := by decide +kernel
theorem dX1_step_13 : decode cX1_step 13 = .ok (.aload_n 1, 1) := by decide +kernel
theorem dX1_step_14 : decode cX1_step 14 = .ok (.getfield 45, 3) := by decide +kernel
theorem dX1_step_17 : decode cX1_step 17 = .ok (.aload_n 0, 1) := by decide +kernel
theorem dX1_step_18 : decode cX1_step 18 = .ok (.getfield 25, 3) := by decide +kernel
theorem dX1_step_21 : decode cX1_step 21 = .ok (.iaload, 1) := by decide +kernel
theorem dX1_step_22 : decode cX1_step 22 = .ok (.istore_n 3, 1) := by decide +kernel
theorem dX1_step_23 : decode cX1_step 23 = .ok (.aload_n 1, 1) := by decide +kernel
theorem dX1_step_24 : decode cX1_step 24 = .ok (.getfield 49, 3) := by decide +kernel
theorem dX1_step_27 : decode cX1_step 27 = .ok (.aload_n 0, 1) := by decide +kernel
theorem dX1_step_28 : decode cX1_step 28 = .ok (.getfield 25, 3) := by decide +kernel
theorem dX1_step_31 : decode cX1_step 31 = .ok (.iaload, 1) := by decide +kernel
theorem dX1_step_32 : decode cX1_step 32 = .ok (.istore 4, 2) := by decide +kernel
theorem dX1_step_34 : decode cX1_step 34 = .ok (.aload_n 0, 1) := by decide +kernel
theorem dX1_step_35 : decode cX1_step 35 = .ok (.dup, 1) := by decide +kernel
theorem dX1_step_36 : decode cX1_step 36 = .ok (.getfield 25, 3) := by decide +kernel
theorem dX1_step_39 : decode cX1_step 39 = .ok (.iconst 1, 1) := by decide +kernel
theorem dX1_step_40 : decode cX1_step 40 = .ok (.iadd, 1) := by decide +kernel
theorem dX1_step_41 : decode cX1_step 41 = .ok (.putfield 25, 3) := by decide +kernel
theorem dX1_step_44 : decode cX1_step 44 = .ok (.iload_n 3, 1) := by decide +kernel
theorem dX1_step_45 : decode cX1_step 45 = .ok (.tableswitch 162 0 8 #[51, 86, 93, 93, 93, 99, 135, 140, 151], 51) := by decide +kernel
theorem dX1_step_96 : decode cX1_step 96 = .ok (.aload_n 0, 1) := by decide +kernel
theorem dX1_step_97 : decode cX1_step 97 = .ok (.getfield 28, 3) := by decide +kernel
theorem dX1_step_100 : decode cX1_step 100 = .ok (.aload_n 2, 1) := by decide +kernel
theorem dX1_step_101 : decode cX1_step 101 = .ok (.getfield 31, 3) := by decide +kernel
theorem dX1_step_104 : decode cX1_step 104 = .ok (.if_icmp .ge 25, 3) := by decide +kernel
theorem dX1_step_107 : decode cX1_step 107 = .ok (.aload_n 0, 1) := by decide +kernel
theorem dX1_step_108 : decode cX1_step 108 = .ok (.aload_n 2, 1) := by decide +kernel
theorem dX1_step_109 : decode cX1_step 109 = .ok (.aload_n 0, 1) := by decide +kernel
theorem dX1_step_110 : decode cX1_step 110 = .ok (.dup, 1) := by decide +kernel
theorem dX1_step_111 : decode cX1_step 111 = .ok (.getfield 28, 3) := by decide +kernel
theorem dX1_step_114 : decode cX1_step 114 = .ok (.dup_x1, 1) := by decide +kernel
theorem dX1_step_115 : decode cX1_step 115 = .ok (.iconst 1, 1) := by decide +kernel
theorem dX1_step_116 : decode cX1_step 116 = .ok (.iadd, 1) := by decide +kernel
theorem dX1_step_117 : decode cX1_step 117 = .ok (.putfield 28, 3) := by decide +kernel
theorem dX1_step_120 : decode cX1_step 120 = .ok (.invokevirtual 52, 3) := by decide +kernel
theorem dX1_step_123 : decode cX1_step 123 = .ok (.invokevirtual 56, 3) := by decide +kernel
theorem dX1_step_126 : decode cX1_step 126 = .ok (.goto 4, 3) := by decide +kernel
theorem dX1_step_129 : decode cX1_step 129 = .ok (.iconst 4, 1) := by decide +kernel
theorem dX1_step_130 : decode cX1_step 130 = .ok (.ireturn, 1) := by decide +kernel
theorem dX1_step_131 : decode cX1_step 131 = .ok (.aload_n 0, 1) := by decide +kernel
theorem dX1_step_132 : decode cX1_step 132 = .ok (.iload 4, 2) := by decide +kernel
theorem dX1_step_134 : decode cX1_step 134 = .ok (.invokevirtual 56, 3) := by decide +kernel
theorem dX1_step_137 : decode cX1_step 137 = .ok (.ireturn, 1) := by decide +kernel
theorem dX1_step_138 : decode cX1_step 138 = .ok (.aload_n 0, 1) := by decide +kernel
theorem dX1_step_139 : decode cX1_step 139 = .ok (.iload_n 3, 1) := by decide +kernel
theorem dX1_step_140 : decode cX1_step 140 = .ok (.invokevirtual 59, 3) := by decide +kernel
theorem dX1_step_143 : decode cX1_step 143 = .ok (.ireturn, 1) := by decide +kernel
theorem dX1_step_144 : decode cX1_step 144 = .ok (.aload_n 0, 1) := by decide +kernel
theorem dX1_step_145 : decode cX1_step 145 = .ok (.getfield 12, 3) := by decide +kernel
theorem dX1_step_148 : decode cX1_step 148 = .ok (.getfield 31, 3) := by decide +kernel
theorem dX1_step_151 : decode cX1_step 151 = .ok (.iconst 1, 1) := by decide +kernel
theorem dX1_step_152 : decode cX1_step 152 = .ok (.if_icmp .ge 7, 3) := by decide +kernel
theorem dX1_step_155 : decode cX1_step 155 = .ok (.iconst 4, 1) := by decide +kernel
theorem dX1_step_156 : decode cX1_step 156 = .ok (.goto 23, 3) := by decide +kernel
theorem dX1_step_159 : decode cX1_step 159 = .ok (.aload_n 0, 1) := by decide +kernel
theorem dX1_step_160 : decode cX1_step 160 = .ok (.aload_n 0, 1) := by decide +kernel
theorem dX1_step_161 : decode cX1_step 161 = .ok (.getfield 12, 3) := by decide +kernel
theorem dX1_step_164 : decode cX1_step 164 = .ok (.aload_n 0, 1) := by decide +kernel
theorem dX1_step_165 : decode cX1_step 165 = .ok (.getfield 12, 3) := by decide +kernel
theorem dX1_step_168 : decode cX1_step 168 = .ok (.getfield 31, 3) := by decide +kernel
theorem dX1_step_171 : decode cX1_step 171 = .ok (.iconst 1, 1) := by decide +kernel
theorem dX1_step_172 : decode cX1_step 172 = .ok (.isub, 1) := by decide +kernel
theorem dX1_step_173 : decode cX1_step 173 = .ok (.invokevirtual 52, 3) := by decide +kernel
theorem dX1_step_176 : decode cX1_step 176 = .ok (.invokevirtual 56, 3) := by decide +kernel
theorem dX1_step_179 : decode cX1_step 179 = .ok (.ireturn, 1) := by decide +kernel
theorem dX1_step_180 : decode cX1_step 180 = .ok (.aload_n 0, 1) := by decide +kernel
theorem dX1_step_181 : decode cX1_step 181 = .ok (.invokevirtual 62, 3) := by decide +kernel
theorem dX1_step_184 : decode cX1_step 184 = .ok (.ireturn, 1) := by decide +kernel
theorem dX1_step_185 : decode cX1_step 185 = .ok (.aload_n 0, 1) := by decide +kernel
theorem dX1_step_186 : decode cX1_step 186 = .ok (.iload 4, 2) := by decide +kernel
theorem dX1_step_188 : decode cX1_step 188 = .ok (.aload_n 1, 1) := by decide +kernel
theorem dX1_step_189 : decode cX1_step 189 = .ok (.getfield 34, 3) := by decide +kernel
theorem dX1_step_192 : decode cX1_step 192 = .ok (.invokevirtual 66, 3) := by decide +kernel
theorem dX1_step_195 : decode cX1_step 195 = .ok (.ireturn, 1) := by decide +kernel
theorem dX1_step_196 : decode cX1_step 196 = .ok (.aload_n 0, 1) := by decide +kernel
theorem dX1_step_197 : decode cX1_step 197 = .ok (.iload 4, 2) := by decide +kernel
theorem dX1_step_199 : decode cX1_step 199 = .ok (.aload_n 1, 1) := by decide +kernel
theorem dX1_step_200 : decode cX1_step 200 = .ok (.getfield 34, 3) := by decide +kernel
theorem dX1_step_203 : decode cX1_step 203 = .ok (.invokevirtual 70, 3) := by decide +kernel
theorem dX1_step_206 : decode cX1_step 206 = .ok (.ireturn, 1) := by decide +kernel
theorem dX1_step_207 : decode cX1_step 207 = .ok (.aload_n 0, 1) := by decide +kernel
theorem dX1_step_208 : decode cX1_step 208 = .ok (.invokevirtual 73, 3) := by decide +kernel
theorem dX1_step_211 : decode cX1_step 211 = .ok (.ireturn, 1) := by decide +kernel
theorem dX1_put_0 : decode cX1_put 0 = .ok (.aload_n 0, 1) := by decide +kernel
theorem dX1_put_1 : decode cX1_put 1 = .ok (.getfield 12, 3) := by decide +kernel
theorem dX1_put_4 : decode cX1_put 4 = .ok (.invokevirtual 76, 3) := by decide +kernel
theorem dX1_put_7 : decode cX1_put 7 = .ok (.ifCond .eq 5, 3) := by decide +kernel
theorem dX1_put_10 : decode cX1_put 10 = .ok (.iconst 3, 1) := by decide +kernel
theorem dX1_put_11 : decode cX1_put 11 = .ok (.ireturn, 1) := by decide +kernel
theorem dX1_put_12 : decode cX1_put 12 = .ok (.aload_n 0, 1) := by decide +kernel
theorem dX1_put_13 : decode cX1_put 13 = .ok (.getfield 12, 3) := by decide +kernel
theorem dX1_put_16 : decode cX1_put 16 = .ok (.iload_n 1, 1) := by decide +kernel
theorem dX1_put_17 : decode cX1_put 17 = .ok (.invokevirtual 80, 3) := by decide +kernel
theorem dX1_put_20 : decode cX1_put 20 = .ok (.iconst 0, 1) := by decide +kernel
theorem dX1_put_21 : decode cX1_put 21 = .ok (.ireturn, 1) := by decide +kernel
theorem dX1_make_0 : decode cX1_make 0 = .ok (.aload_n 0, 1) := by decide +kernel
theorem dX1_make_1 : decode cX1_make 1 = .ok (.getfield 12, 3) := by decide +kernel
theorem dX1_make_4 : decode cX1_make 4 = .ok (.getfield 31, 3) := by decide +kernel
theorem dX1_make_7 : decode cX1_make 7 = .ok (.iconst 2, 1) := by decide +kernel
theorem dX1_make_8 : decode cX1_make 8 = .ok (.if_icmp .ge 5, 3) := by decide +kernel
theorem dX1_make_11 : decode cX1_make 11 = .ok (.iconst 4, 1) := by decide +kernel
theorem dX1_make_12 : decode cX1_make 12 = .ok (.ireturn, 1) := by decide +kernel
theorem dX1_make_13 : decode cX1_make 13 = .ok (.aload_n 0, 1) := by decide +kernel
theorem dX1_make_14 : decode cX1_make 14 = .ok (.getfield 12, 3) := by decide +kernel
theorem dX1_make_17 : decode cX1_make 17 = .ok (.invokevirtual 84, 3) := by decide +kernel
theorem dX1_make_20 : decode cX1_make 20 = .ok (.i2l, 1) := by decide +kernel
theorem dX1_make_21 : decode cX1_make 21 = .ok (.lstore_n 2, 1) := by decide +kernel
theorem dX1_make_22 : decode cX1_make 22 = .ok (.aload_n 0, 1) := by decide +kernel
theorem dX1_make_23 : decode cX1_make 23 = .ok (.getfield 12, 3) := by decide +kernel
theorem dX1_make_26 : decode cX1_make 26 = .ok (.invokevirtual 84, 3) := by decide +kernel
theorem dX1_make_29 : decode cX1_make 29 = .ok (.i2l, 1) := by decide +kernel
theorem dX1_make_30 : decode cX1_make 30 = .ok (.lstore 4, 2) := by decide +kernel
theorem dX1_make_32 : decode cX1_make 32 = .ok (.iload_n 1, 1) := by decide +kernel
theorem dX1_make_33 : decode cX1_make 33 = .ok (.iconst 2, 1) := by decide +kernel
theorem dX1_make_34 : decode cX1_make 34 = .ok (.if_icmp .ne 10, 3) := by decide +kernel
theorem dX1_make_37 : decode cX1_make 37 = .ok (.lload 4, 2) := by decide +kernel
theorem dX1_make_39 : decode cX1_make 39 = .ok (.lload_n 2, 1) := by decide +kernel
theorem dX1_make_40 : decode cX1_make 40 = .ok (.ladd, 1) := by decide +kernel
theorem dX1_make_41 : decode cX1_make 41 = .ok (.goto 19, 3) := by decide +kernel
theorem dX1_make_44 : decode cX1_make 44 = .ok (.iload_n 1, 1) := by decide +kernel
theorem dX1_make_45 : decode cX1_make 45 = .ok (.iconst 3, 1) := by decide +kernel
theorem dX1_make_46 : decode cX1_make 46 = .ok (.if_icmp .ne 10, 3) := by decide +kernel
theorem dX1_make_49 : decode cX1_make 49 = .ok (.lload 4, 2) := by decide +kernel
theorem dX1_make_51 : decode cX1_make 51 = .ok (.lload_n 2, 1) := by decide +kernel
theorem dX1_make_52 : decode cX1_make 52 = .ok (.lsub, 1) := by decide +kernel
theorem dX1_make_53 : decode cX1_make 53 = .ok (.goto 7, 3) := by decide +kernel
theorem dX1_make_56 : decode cX1_make 56 = .ok (.lload 4, 2) := by decide +kernel
theorem dX1_make_58 : decode cX1_make 58 = .ok (.lload_n 2, 1) := by decide +kernel
theorem dX1_make_59 : decode cX1_make 59 = .ok (.lmul, 1) := by decide +kernel
theorem dX1_make_60 : decode cX1_make 60 = .ok (.lstore 6, 2) := by decide +kernel
theorem dX1_make_62 : decode cX1_make 62 = .ok (.lload 6, 2) := by decide +kernel
theorem dX1_make_64 : decode cX1_make 64 = .ok (.ldc2_w 87, 3) := by decide +kernel
theorem dX1_make_67 : decode cX1_make 67 = .ok (.lcmp, 1) := by decide +kernel
theorem dX1_make_68 : decode cX1_make 68 = .ok (.ifCond .gt 12, 3) := by decide +kernel
theorem dX1_make_71 : decode cX1_make 71 = .ok (.lload 6, 2) := by decide +kernel
theorem dX1_make_73 : decode cX1_make 73 = .ok (.ldc2_w 89, 3) := by decide +kernel
theorem dX1_make_76 : decode cX1_make 76 = .ok (.lcmp, 1) := by decide +kernel
theorem dX1_make_77 : decode cX1_make 77 = .ok (.ifCond .ge 5, 3) := by decide +kernel
theorem dX1_make_80 : decode cX1_make 80 = .ok (.iconst 4, 1) := by decide +kernel
theorem dX1_make_81 : decode cX1_make 81 = .ok (.ireturn, 1) := by decide +kernel
theorem dX1_make_82 : decode cX1_make 82 = .ok (.aload_n 0, 1) := by decide +kernel
theorem dX1_make_83 : decode cX1_make 83 = .ok (.getfield 12, 3) := by decide +kernel
theorem dX1_make_86 : decode cX1_make 86 = .ok (.lload 6, 2) := by decide +kernel
theorem dX1_make_88 : decode cX1_make 88 = .ok (.l2i, 1) := by decide +kernel
theorem dX1_make_89 : decode cX1_make 89 = .ok (.invokevirtual 80, 3) := by decide +kernel
theorem dX1_make_92 : decode cX1_make 92 = .ok (.iconst 0, 1) := by decide +kernel
theorem dX1_make_93 : decode cX1_make 93 = .ok (.ireturn, 1) := by decide +kernel
theorem dX1_swap_0 : decode cX1_swap 0 = .ok (.aload_n 0, 1) := by decide +kernel
theorem dX1_swap_1 : decode cX1_swap 1 = .ok (.getfield 12, 3) := by decide +kernel
theorem dX1_swap_4 : decode cX1_swap 4 = .ok (.getfield 31, 3) := by decide +kernel
theorem dX1_swap_7 : decode cX1_swap 7 = .ok (.iconst 2, 1) := by decide +kernel
theorem dX1_swap_8 : decode cX1_swap 8 = .ok (.if_icmp .ge 5, 3) := by decide +kernel
theorem dX1_swap_11 : decode cX1_swap 11 = .ok (.iconst 4, 1) := by decide +kernel
theorem dX1_swap_12 : decode cX1_swap 12 = .ok (.ireturn, 1) := by decide +kernel
theorem dX1_swap_13 : decode cX1_swap 13 = .ok (.aload_n 0, 1) := by decide +kernel
theorem dX1_swap_14 : decode cX1_swap 14 = .ok (.getfield 12, 3) := by decide +kernel
theorem dX1_swap_17 : decode cX1_swap 17 = .ok (.invokevirtual 84, 3) := by decide +kernel
theorem dX1_swap_20 : decode cX1_swap 20 = .ok (.istore_n 1, 1) := by decide +kernel
theorem dX1_swap_21 : decode cX1_swap 21 = .ok (.aload_n 0, 1) := by decide +kernel
theorem dX1_swap_22 : decode cX1_swap 22 = .ok (.getfield 12, 3) := by decide +kernel
theorem dX1_swap_25 : decode cX1_swap 25 = .ok (.invokevirtual 84, 3) := by decide +kernel
theorem dX1_swap_28 : decode cX1_swap 28 = .ok (.istore_n 2, 1) := by decide +kernel
theorem dX1_swap_29 : decode cX1_swap 29 = .ok (.aload_n 0, 1) := by decide +kernel
theorem dX1_swap_30 : decode cX1_swap 30 = .ok (.getfield 12, 3) := by decide +kernel
theorem dX1_swap_33 : decode cX1_swap 33 = .ok (.iload_n 1, 1) := by decide +kernel
theorem dX1_swap_34 : decode cX1_swap 34 = .ok (.invokevirtual 80, 3) := by decide +kernel
theorem dX1_swap_37 : decode cX1_swap 37 = .ok (.aload_n 0, 1) := by decide +kernel
theorem dX1_swap_38 : decode cX1_swap 38 = .ok (.getfield 12, 3) := by decide +kernel
theorem dX1_swap_41 : decode cX1_swap 41 = .ok (.iload_n 2, 1) := by decide +kernel
theorem dX1_swap_42 : decode cX1_swap 42 = .ok (.invokevirtual 80, 3) := by decide +kernel
theorem dX1_swap_45 : decode cX1_swap 45 = .ok (.iconst 0, 1) := by decide +kernel
theorem dX1_swap_46 : decode cX1_swap 46 = .ok (.ireturn, 1) := by decide +kernel
theorem dX1_goIfZero_0 : decode cX1_goIfZero 0 = .ok (.aload_n 0, 1) := by decide +kernel
theorem dX1_goIfZero_1 : decode cX1_goIfZero 1 = .ok (.getfield 12, 3) := by decide +kernel
theorem dX1_goIfZero_4 : decode cX1_goIfZero 4 = .ok (.getfield 31, 3) := by decide +kernel
theorem dX1_goIfZero_7 : decode cX1_goIfZero 7 = .ok (.iconst 1, 1) := by decide +kernel
theorem dX1_goIfZero_8 : decode cX1_goIfZero 8 = .ok (.if_icmp .ge 5, 3) := by decide +kernel
theorem dX1_goIfZero_11 : decode cX1_goIfZero 11 = .ok (.iconst 4, 1) := by decide +kernel
theorem dX1_goIfZero_12 : decode cX1_goIfZero 12 = .ok (.ireturn, 1) := by decide +kernel
theorem dX1_goIfZero_13 : decode cX1_goIfZero 13 = .ok (.aload_n 0, 1) := by decide +kernel
theorem dX1_goIfZero_14 : decode cX1_goIfZero 14 = .ok (.getfield 12, 3) := by decide +kernel
theorem dX1_goIfZero_17 : decode cX1_goIfZero 17 = .ok (.invokevirtual 84, 3) := by decide +kernel
theorem dX1_goIfZero_20 : decode cX1_goIfZero 20 = .ok (.ifCond .ne 12, 3) := by decide +kernel
theorem dX1_goIfZero_23 : decode cX1_goIfZero 23 = .ok (.aload_n 0, 1) := by decide +kernel
theorem dX1_goIfZero_24 : decode cX1_goIfZero 24 = .ok (.iload_n 1, 1) := by decide +kernel
theorem dX1_goIfZero_25 : decode cX1_goIfZero 25 = .ok (.iload_n 2, 1) := by decide +kernel
theorem dX1_goIfZero_26 : decode cX1_goIfZero 26 = .ok (.invokevirtual 70, 3) := by decide +kernel
theorem dX1_goIfZero_29 : decode cX1_goIfZero 29 = .ok (.goto 4, 3) := by decide +kernel
theorem dX1_goIfZero_32 : decode cX1_goIfZero 32 = .ok (.iconst 0, 1) := by decide +kernel
theorem dX1_goIfZero_33 : decode cX1_goIfZero 33 = .ok (.ireturn, 1) := by decide +kernel
theorem dX1_goTo_0 : decode cX1_goTo 0 = .ok (.iload_n 1, 1) := by decide +kernel
theorem dX1_goTo_1 : decode cX1_goTo 1 = .ok (.ifCond .lt 8, 3) := by decide +kernel
theorem dX1_goTo_4 : decode cX1_goTo 4 = .ok (.iload_n 1, 1) := by decide +kernel
theorem dX1_goTo_5 : decode cX1_goTo 5 = .ok (.iload_n 2, 1) := by decide +kernel
theorem dX1_goTo_6 : decode cX1_goTo 6 = .ok (.if_icmp .le 5, 3) := by decide +kernel
theorem dX1_goTo_9 : decode cX1_goTo 9 = .ok (.iconst 4, 1) := by decide +kernel
theorem dX1_goTo_10 : decode cX1_goTo 10 = .ok (.ireturn, 1) := by decide +kernel
theorem dX1_goTo_11 : decode cX1_goTo 11 = .ok (.aload_n 0, 1) := by decide +kernel
theorem dX1_goTo_12 : decode cX1_goTo 12 = .ok (.iload_n 1, 1) := by decide +kernel
theorem dX1_goTo_13 : decode cX1_goTo 13 = .ok (.putfield 25, 3) := by decide +kernel
theorem dX1_goTo_16 : decode cX1_goTo 16 = .ok (.iconst 0, 1) := by decide +kernel
theorem dX1_goTo_17 : decode cX1_goTo 17 = .ok (.ireturn, 1) := by decide +kernel
theorem dX1_print_0 : decode cX1_print 0 = .ok (.aload_n 0, 1) := by decide +kernel
theorem dX1_print_1 : decode cX1_print 1 = .ok (.getfield 12, 3) := by decide +kernel
theorem dX1_print_4 : decode cX1_print 4 = .ok (.getfield 31, 3) := by decide +kernel
theorem dX1_print_7 : decode cX1_print 7 = .ok (.iconst 1, 1) := by decide +kernel
theorem dX1_print_8 : decode cX1_print 8 = .ok (.if_icmp .ge 5, 3) := by decide +kernel
theorem dX1_print_11 : decode cX1_print 11 = .ok (.iconst 4, 1) := by decide +kernel
theorem dX1_print_12 : decode cX1_print 12 = .ok (.ireturn, 1) := by decide +kernel
theorem dX1_print_13 : decode cX1_print 13 = .ok (.aload_n 0, 1) := by decide +kernel
theorem dX1_print_14 : decode cX1_print 14 = .ok (.getfield 18, 3) := by decide +kernel
theorem dX1_print_17 : decode cX1_print 17 = .ok (.invokevirtual 76, 3) := by decide +kernel
theorem dX1_print_20 : decode cX1_print 20 = .ok (.ifCond .eq 5, 3) := by decide +kernel
theorem dX1_print_23 : decode cX1_print 23 = .ok (.iconst 3, 1) := by decide +kernel
theorem dX1_print_24 : decode cX1_print 24 = .ok (.ireturn, 1) := by decide +kernel
theorem dX1_print_25 : decode cX1_print 25 = .ok (.aload_n 0, 1) := by decide +kernel
theorem dX1_print_26 : decode cX1_print 26 = .ok (.getfield 18, 3) := by decide +kernel
theorem dX1_print_29 : decode cX1_print 29 = .ok (.aload_n 0, 1) := by decide +kernel
theorem dX1_print_30 : decode cX1_print 30 = .ok (.getfield 12, 3) := by decide +kernel
theorem dX1_print_33 : decode cX1_print 33 = .ok (.invokevirtual 84, 3) := by decide +kernel
theorem dX1_print_36 : decode cX1_print 36 = .ok (.invokevirtual 80, 3) := by decide +kernel
theorem dX1_print_39 : decode cX1_print 39 = .ok (.iconst 0, 1) := by decide +kernel
theorem dX1_print_40 : decode cX1_print 40 = .ok (.ireturn, 1) := by decide +kernel
theorem dX2_init_0 : decode cX2_init 0 = .ok (.aload_n 0, 1) := by decide +kernel
theorem dX2_init_1 : decode cX2_init 1 = .ok (.invokespecial 3, 3) := by decide +kernel
theorem dX2_init_4 : decode cX2_init 4 = .ok (.aload_n 0, 1) := by decide +kernel
theorem dX2_init_5 : decode cX2_init 5 = .ok (.new 9, 3) := by decide +kernel
theorem dX2_init_8 : decode cX2_init 8 = .ok (.dup, 1) := by decide +kernel
theorem dX2_init_9 : decode cX2_init 9 = .ok (.invokespecial 11, 3) := by decide +kernel
theorem dX2_init_12 : decode cX2_init 12 = .ok (.putfield 12, 3) := by decide +kernel
theorem dX2_init_15 : decode cX2_init 15 = .ok (.aload_n 0, 1) := by decide +kernel
theorem dX2_init_16 : decode cX2_init 16 = .ok (.new 18, 3) := by decide +kernel
theorem dX2_init_19 : decode cX2_init 19 = .ok (.dup, 1) := by decide +kernel
theorem dX2_init_20 : decode cX2_init 20 = .ok (.invokespecial 20, 3) := by decide +kernel
theorem dX2_init_23 : decode cX2_init 23 = .ok (.putfield 21, 3) := by decide +kernel
theorem dX2_init_26 : decode cX2_init 26 = .ok (.aload_n 0, 1) := by decide +kernel
theorem dX2_init_27 : decode cX2_init 27 = .ok (.iconst 4, 1) := by decide +kernel
theorem dX2_init_28 : decode cX2_init 28 = .ok (.newarray .int, 2) := by decide +kernel
theorem dX2_init_30 : decode cX2_init 30 = .ok (.putfield 25, 3) := by decide +kernel
theorem dX2_init_33 : decode cX2_init 33 = .ok (.aload_n 0, 1) := by decide +kernel
theorem dX2_init_34 : decode cX2_init 34 = .ok (.iconst 0, 1) := by decide +kernel
theorem dX2_init_35 : decode cX2_init 35 = .ok (.putfield 29, 3) := by decide +kernel
theorem dX2_init_38 : decode cX2_init 38 = .ok (.aload_n 0, 1) := by decide +kernel
theorem dX2_init_39 : decode cX2_init 39 = .ok (.iload_n 1, 1) := by decide +kernel
theorem dX2_init_40 : decode cX2_init 40 = .ok (.putfield 33, 3) := by decide +kernel
theorem dX2_init_43 : decode cX2_init 43 = .ok (.aload_n 0, 1) := by decide +kernel
theorem dX2_init_44 : decode cX2_init 44 = .ok (.iload_n 2, 1) := by decide +kernel
theorem dX2_init_45 : decode cX2_init 45 = .ok (.putfield 36, 3) := by decide +kernel
theorem dX2_init_48 : decode cX2_init 48 = .ok (.aload_n 0, 1) := by decide +kernel
theorem dX2_init_49 : decode cX2_init 49 = .ok (.iload_n 3, 1) := by decide +kernel
theorem dX2_init_50 : decode cX2_init 50 = .ok (.putfield 39, 3) := by decide +kernel
theorem dX2_init_53 : decode cX2_init 53 = .ok (.aload_n 0, 1) := by decide +kernel
theorem dX2_init_54 : decode cX2_init 54 = .ok (.getfield 25, 3) := by decide +kernel
theorem dX2_init_57 : decode cX2_init 57 = .ok (.bipush 25, 2) := by decide +kernel
theorem dX2_init_59 : decode cX2_init 59 = .ok (.invokestatic 42, 3) := by decide +kernel
theorem dX2_init_62 : decode cX2_init 62 = .ok (.return_, 1) := by decide +kernel
theorem dX2_addTrial_0 : decode cX2_addTrial 0 = .ok (.aload_n 0, 1) := by decide +kernel
theorem dX2_addTrial_1 : decode cX2_addTrial 1 = .ok (.getfield 21, 3) := by decide +kernel
theorem dX2_addTrial_4 : decode cX2_addTrial 4 = .ok (.aload_n 1, 1) := by decide +kernel
theorem dX2_addTrial_5 : decode cX2_addTrial 5 = .ok (.invokevirtual 48, 3) := by decide +kernel
theorem dX2_addTrial_8 : decode cX2_addTrial 8 = .ok (.pop, 1) := by decide +kernel
theorem dX2_addTrial_9 : decode cX2_addTrial 9 = .ok (.aload_n 0, 1) := by decide +kernel
theorem dX2_addTrial_10 : decode cX2_addTrial 10 = .ok (.dup, 1) := by decide +kernel
theorem dX2_addTrial_11 : decode cX2_addTrial 11 = .ok (.getfield 29, 3) := by decide +kernel
theorem dX2_addTrial_14 : decode cX2_addTrial 14 = .ok (.iconst 1, 1) := by decide +kernel
theorem dX2_addTrial_15 : decode cX2_addTrial 15 = .ok (.iadd, 1) := by decide +kernel
theorem dX2_addTrial_16 : decode cX2_addTrial 16 = .ok (.putfield 29, 3) := by decide +kernel
theorem dX2_addTrial_19 : decode cX2_addTrial 19 = .ok (.return_, 1) := by decide +kernel
theorem dX2_pointsOf_0 : decode cX2_pointsOf 0 = .ok (.iconst 0, 1) := by decide +kernel
theorem dX2_pointsOf_1 : decode cX2_pointsOf 1 = .ok (.istore_n 2, 1) := by decide +kernel
theorem dX2_pointsOf_2 : decode cX2_pointsOf 2 = .ok (.iconst 0, 1) := by decide +kernel
theorem dX2_pointsOf_3 : decode cX2_pointsOf 3 = .ok (.istore_n 3, 1) := by decide +kernel
theorem dX2_pointsOf_4 : decode cX2_pointsOf 4 = .ok (.iload_n 3, 1) := by decide +kernel
theorem dX2_pointsOf_5 : decode cX2_pointsOf 5 = .ok (.iconst 4, 1) := by decide +kernel
theorem dX2_pointsOf_6 : decode cX2_pointsOf 6 = .ok (.if_icmp .ge 26, 3) := by decide +kernel
theorem dX2_pointsOf_9 : decode cX2_pointsOf 9 = .ok (.iload_n 1, 1) := by decide +kernel
theorem dX2_pointsOf_10 : decode cX2_pointsOf 10 = .ok (.iload_n 3, 1) := by decide +kernel
theorem dX2_pointsOf_11 : decode cX2_pointsOf 11 = .ok (.ishr, 1) := by decide +kernel
theorem dX2_pointsOf_12 : decode cX2_pointsOf 12 = .ok (.iconst 1, 1) := by decide +kernel
theorem dX2_pointsOf_13 : decode cX2_pointsOf 13 = .ok (.iand, 1) := by decide +kernel
theorem dX2_pointsOf_14 : decode cX2_pointsOf 14 = .ok (.ifCond .eq 12, 3) := by decide +kernel
theorem dX2_pointsOf_17 : decode cX2_pointsOf 17 = .ok (.iload_n 2, 1) := by decide +kernel
theorem dX2_pointsOf_18 : decode cX2_pointsOf 18 = .ok (.aload_n 0, 1) := by decide +kernel
theorem dX2_pointsOf_19 : decode cX2_pointsOf 19 = .ok (.getfield 25, 3) := by decide +kernel
theorem dX2_pointsOf_22 : decode cX2_pointsOf 22 = .ok (.iload_n 3, 1) := by decide +kernel
theorem dX2_pointsOf_23 : decode cX2_pointsOf 23 = .ok (.iaload, 1) := by decide +kernel
theorem dX2_pointsOf_24 : decode cX2_pointsOf 24 = .ok (.iadd, 1) := by decide +kernel
theorem dX2_pointsOf_25 : decode cX2_pointsOf 25 = .ok (.istore_n 2, 1) := by decide +kernel
theorem dX2_pointsOf_26 : decode cX2_pointsOf 26 = .ok (.iinc 3 1, 3) := by decide +kernel
theorem dX2_pointsOf_29 : decode cX2_pointsOf 29 = .ok (.goto (-25), 3) := by decide +kernel
theorem dX2_pointsOf_32 : decode cX2_pointsOf 32 = .ok (.iload_n 2, 1) := by decide +kernel
theorem dX2_pointsOf_33 : decode cX2_pointsOf 33 = .ok (.ireturn, 1) := by decide +kernel
theorem dX3_init_0 : decode cX3_init 0 = .ok (.aload_n 0, 1) := by decide +kernel
theorem dX3_init_1 : decode cX3_init 1 = .ok (.invokespecial 3, 3) := by decide +kernel
theorem dX3_init_4 : decode cX3_init 4 = .ok (.aload_n 0, 1) := by decide +kernel
theorem dX3_init_5 : decode cX3_init 5 = .ok (.bipush 16, 2) := by decide +kernel
theorem dX3_init_7 : decode cX3_init 7 = .ok (.newarray .int, 2) := by decide +kernel
theorem dX3_init_9 : decode cX3_init 9 = .ok (.putfield 9, 3) := by decide +kernel
theorem dX3_init_12 : decode cX3_init 12 = .ok (.aload_n 0, 1) := by decide +kernel
theorem dX3_init_13 : decode cX3_init 13 = .ok (.bipush 16, 2) := by decide +kernel
theorem dX3_init_15 : decode cX3_init 15 = .ok (.newarray .int, 2) := by decide +kernel
theorem dX3_init_17 : decode cX3_init 17 = .ok (.putfield 15, 3) := by decide +kernel
theorem dX3_init_20 : decode cX3_init 20 = .ok (.aload_n 0, 1) := by decide +kernel
theorem dX3_init_21 : decode cX3_init 21 = .ok (.iconst 0, 1) := by decide +kernel
theorem dX3_init_22 : decode cX3_init 22 = .ok (.putfield 18, 3) := by decide +kernel
theorem dX3_init_25 : decode cX3_init 25 = .ok (.return_, 1) := by decide +kernel
theorem dX3_append_0 : decode cX3_append 0 = .ok (.aload_n 0, 1) := by decide +kernel
theorem dX3_append_1 : decode cX3_append 1 = .ok (.getfield 18, 3) := by decide +kernel
theorem dX3_append_4 : decode cX3_append 4 = .ok (.ifCond .lt 42, 3) := by decide +kernel
theorem dX3_append_7 : decode cX3_append 7 = .ok (.aload_n 0, 1) := by decide +kernel
theorem dX3_append_8 : decode cX3_append 8 = .ok (.getfield 18, 3) := by decide +kernel
theorem dX3_append_11 : decode cX3_append 11 = .ok (.bipush 16, 2) := by decide +kernel
theorem dX3_append_13 : decode cX3_append 13 = .ok (.if_icmp .ge 33, 3) := by decide +kernel
theorem dX3_append_16 : decode cX3_append 16 = .ok (.aload_n 0, 1) := by decide +kernel
theorem dX3_append_17 : decode cX3_append 17 = .ok (.getfield 9, 3) := by decide +kernel
theorem dX3_append_20 : decode cX3_append 20 = .ok (.aload_n 0, 1) := by decide +kernel
theorem dX3_append_21 : decode cX3_append 21 = .ok (.getfield 18, 3) := by decide +kernel
theorem dX3_append_24 : decode cX3_append 24 = .ok (.iload_n 1, 1) := by decide +kernel
theorem dX3_append_25 : decode cX3_append 25 = .ok (.iastore, 1) := by decide +kernel
theorem dX3_append_26 : decode cX3_append 26 = .ok (.aload_n 0, 1) := by decide +kernel
theorem dX3_append_27 : decode cX3_append 27 = .ok (.getfield 15, 3) := by decide +kernel
theorem dX3_append_30 : decode cX3_append 30 = .ok (.aload_n 0, 1) := by decide +kernel
theorem dX3_append_31 : decode cX3_append 31 = .ok (.getfield 18, 3) := by decide +kernel
theorem dX3_append_34 : decode cX3_append 34 = .ok (.iload_n 2, 1) := by decide +kernel
theorem dX3_append_35 : decode cX3_append 35 = .ok (.iastore, 1) := by decide +kernel
theorem dX3_append_36 : decode cX3_append 36 = .ok (.aload_n 0, 1) := by decide +kernel
theorem dX3_append_37 : decode cX3_append 37 = .ok (.dup, 1) := by decide +kernel
theorem dX3_append_38 : decode cX3_append 38 = .ok (.getfield 18, 3) := by decide +kernel
theorem dX3_append_41 : decode cX3_append 41 = .ok (.iconst 1, 1) := by decide +kernel
theorem dX3_append_42 : decode cX3_append 42 = .ok (.iadd, 1) := by decide +kernel
theorem dX3_append_43 : decode cX3_append 43 = .ok (.putfield 18, 3) := by decide +kernel
theorem dX3_append_46 : decode cX3_append 46 = .ok (.return_, 1) := by decide +kernel
theorem dX3_takeFrom_0 : decode cX3_takeFrom 0 = .ok (.aload_n 1, 1) := by decide +kernel
theorem dX3_takeFrom_1 : decode cX3_takeFrom 1 = .ok (.getfield 9, 3) := by decide +kernel
theorem dX3_takeFrom_4 : decode cX3_takeFrom 4 = .ok (.iconst 0, 1) := by decide +kernel
theorem dX3_takeFrom_5 : decode cX3_takeFrom 5 = .ok (.aload_n 0, 1) := by decide +kernel
theorem dX3_takeFrom_6 : decode cX3_takeFrom 6 = .ok (.getfield 9, 3) := by decide +kernel
theorem dX3_takeFrom_9 : decode cX3_takeFrom 9 = .ok (.iconst 0, 1) := by decide +kernel
theorem dX3_takeFrom_10 : decode cX3_takeFrom 10 = .ok (.bipush 16, 2) := by decide +kernel
theorem dX3_takeFrom_12 : decode cX3_takeFrom 12 = .ok (.invokestatic 22, 3) := by decide +kernel
theorem dX3_takeFrom_15 : decode cX3_takeFrom 15 = .ok (.aload_n 1, 1) := by decide +kernel
theorem dX3_takeFrom_16 : decode cX3_takeFrom 16 = .ok (.getfield 15, 3) := by decide +kernel
theorem dX3_takeFrom_19 : decode cX3_takeFrom 19 = .ok (.iconst 0, 1) := by decide +kernel
theorem dX3_takeFrom_20 : decode cX3_takeFrom 20 = .ok (.aload_n 0, 1) := by decide +kernel
theorem dX3_takeFrom_21 : decode cX3_takeFrom 21 = .ok (.getfield 15, 3) := by decide +kernel
theorem dX3_takeFrom_24 : decode cX3_takeFrom 24 = .ok (.iconst 0, 1) := by decide +kernel
theorem dX3_takeFrom_25 : decode cX3_takeFrom 25 = .ok (.bipush 16, 2) := by decide +kernel
theorem dX3_takeFrom_27 : decode cX3_takeFrom 27 = .ok (.invokestatic 22, 3) := by decide +kernel
theorem dX3_takeFrom_30 : decode cX3_takeFrom 30 = .ok (.aload_n 0, 1) := by decide +kernel
theorem dX3_takeFrom_31 : decode cX3_takeFrom 31 = .ok (.aload_n 1, 1) := by decide +kernel
theorem dX3_takeFrom_32 : decode cX3_takeFrom 32 = .ok (.getfield 18, 3) := by decide +kernel
theorem dX3_takeFrom_35 : decode cX3_takeFrom 35 = .ok (.putfield 18, 3) := by decide +kernel
theorem dX3_takeFrom_38 : decode cX3_takeFrom 38 = .ok (.aload_n 1, 1) := by decide +kernel
theorem dX3_takeFrom_39 : decode cX3_takeFrom 39 = .ok (.iconst 0, 1) := by decide +kernel
theorem dX3_takeFrom_40 : decode cX3_takeFrom 40 = .ok (.putfield 18, 3) := by decide +kernel
theorem dX3_takeFrom_43 : decode cX3_takeFrom 43 = .ok (.return_, 1) := by decide +kernel
theorem dX3_has_0 : decode cX3_has 0 = .ok (.iload_n 1, 1) := by decide +kernel
theorem dX3_has_1 : decode cX3_has 1 = .ok (.ifCond .lt 21, 3) := by decide +kernel
theorem dX3_has_4 : decode cX3_has 4 = .ok (.iload_n 1, 1) := by decide +kernel
theorem dX3_has_5 : decode cX3_has 5 = .ok (.aload_n 0, 1) := by decide +kernel
theorem dX3_has_6 : decode cX3_has 6 = .ok (.getfield 18, 3) := by decide +kernel
theorem dX3_has_9 : decode cX3_has 9 = .ok (.if_icmp .ge 13, 3) := by decide +kernel
theorem dX3_has_12 : decode cX3_has 12 = .ok (.iload_n 1, 1) := by decide +kernel
theorem dX3_has_13 : decode cX3_has 13 = .ok (.bipush 16, 2) := by decide +kernel
theorem dX3_has_15 : decode cX3_has 15 = .ok (.if_icmp .ge 7, 3) := by decide +kernel
theorem dX3_has_18 : decode cX3_has 18 = .ok (.iconst 1, 1) := by decide +kernel
theorem dX3_has_19 : decode cX3_has 19 = .ok (.goto 4, 3) := by decide +kernel
theorem dX3_has_22 : decode cX3_has 22 = .ok (.iconst 0, 1) := by decide +kernel
theorem dX3_has_23 : decode cX3_has 23 = .ok (.ireturn, 1) := by decide +kernel
theorem dX3_isAlikeAt_0 : decode cX3_isAlikeAt 0 = .ok (.aload_n 0, 1) := by decide +kernel
theorem dX3_isAlikeAt_1 : decode cX3_isAlikeAt 1 = .ok (.iload_n 1, 1) := by decide +kernel
theorem dX3_isAlikeAt_2 : decode cX3_isAlikeAt 2 = .ok (.invokevirtual 28, 3) := by decide +kernel
theorem dX3_isAlikeAt_5 : decode cX3_isAlikeAt 5 = .ok (.ifCond .eq 26, 3) := by decide +kernel
theorem dX3_isAlikeAt_8 : decode cX3_isAlikeAt 8 = .ok (.aload_n 2, 1) := by decide +kernel
theorem dX3_isAlikeAt_9 : decode cX3_isAlikeAt 9 = .ok (.iload_n 3, 1) := by decide +kernel
theorem dX3_isAlikeAt_10 : decode cX3_isAlikeAt 10 = .ok (.invokevirtual 28, 3) := by decide +kernel
theorem dX3_isAlikeAt_13 : decode cX3_isAlikeAt 13 = .ok (.ifCond .eq 18, 3) := by decide +kernel
theorem dX3_isAlikeAt_16 : decode cX3_isAlikeAt 16 = .ok (.aload_n 0, 1) := by decide +kernel
theorem dX3_isAlikeAt_17 : decode cX3_isAlikeAt 17 = .ok (.getfield 9, 3) := by decide +kernel
theorem dX3_isAlikeAt_20 : decode cX3_isAlikeAt 20 = .ok (.iload_n 1, 1) := by decide +kernel
theorem dX3_isAlikeAt_21 : decode cX3_isAlikeAt 21 = .ok (.iaload, 1) := by decide +kernel
theorem dX3_isAlikeAt_22 : decode cX3_isAlikeAt 22 = .ok (.aload_n 2, 1) := by decide +kernel
theorem dX3_isAlikeAt_23 : decode cX3_isAlikeAt 23 = .ok (.getfield 9, 3) := by decide +kernel
theorem dX3_isAlikeAt_26 : decode cX3_isAlikeAt 26 = .ok (.iload_n 3, 1) := by decide +kernel
theorem dX3_isAlikeAt_27 : decode cX3_isAlikeAt 27 = .ok (.iaload, 1) := by decide +kernel
theorem dX3_isAlikeAt_28 : decode cX3_isAlikeAt 28 = .ok (.if_icmp .eq 5, 3) := by decide +kernel
theorem dX3_isAlikeAt_31 : decode cX3_isAlikeAt 31 = .ok (.iconst 0, 1) := by decide +kernel
theorem dX3_isAlikeAt_32 : decode cX3_isAlikeAt 32 = .ok (.ireturn, 1) := by decide +kernel
theorem dX3_isAlikeAt_33 : decode cX3_isAlikeAt 33 = .ok (.aload_n 0, 1) := by decide +kernel
theorem dX3_isAlikeAt_34 : decode cX3_isAlikeAt 34 = .ok (.getfield 9, 3) := by decide +kernel
theorem dX3_isAlikeAt_37 : decode cX3_isAlikeAt 37 = .ok (.iload_n 1, 1) := by decide +kernel
theorem dX3_isAlikeAt_38 : decode cX3_isAlikeAt 38 = .ok (.iaload, 1) := by decide +kernel
theorem dX3_isAlikeAt_39 : decode cX3_isAlikeAt 39 = .ok (.bipush 7, 2) := by decide +kernel
theorem dX3_isAlikeAt_41 : decode cX3_isAlikeAt 41 = .ok (.if_icmp .eq 14, 3) := by decide +kernel
theorem dX3_isAlikeAt_44 : decode cX3_isAlikeAt 44 = .ok (.aload_n 0, 1) := by decide +kernel
theorem dX3_isAlikeAt_45 : decode cX3_isAlikeAt 45 = .ok (.getfield 9, 3) := by decide +kernel
theorem dX3_isAlikeAt_48 : decode cX3_isAlikeAt 48 = .ok (.iload_n 1, 1) := by decide +kernel
theorem dX3_isAlikeAt_49 : decode cX3_isAlikeAt 49 = .ok (.iaload, 1) := by decide +kernel
theorem dX3_isAlikeAt_50 : decode cX3_isAlikeAt 50 = .ok (.bipush 8, 2) := by decide +kernel
theorem dX3_isAlikeAt_52 : decode cX3_isAlikeAt 52 = .ok (.if_icmp .ne 7, 3) := by decide +kernel
theorem dX3_isAlikeAt_55 : decode cX3_isAlikeAt 55 = .ok (.iconst 1, 1) := by decide +kernel
theorem dX3_isAlikeAt_56 : decode cX3_isAlikeAt 56 = .ok (.goto 4, 3) := by decide +kernel
theorem dX3_isAlikeAt_59 : decode cX3_isAlikeAt 59 = .ok (.iconst 0, 1) := by decide +kernel
theorem dX3_isAlikeAt_60 : decode cX3_isAlikeAt 60 = .ok (.istore 4, 2) := by decide +kernel
theorem dX3_isAlikeAt_62 : decode cX3_isAlikeAt 62 = .ok (.iload 4, 2) := by decide +kernel
theorem dX3_isAlikeAt_64 : decode cX3_isAlikeAt 64 = .ok (.ifCond .eq 18, 3) := by decide +kernel
theorem dX3_isAlikeAt_67 : decode cX3_isAlikeAt 67 = .ok (.aload_n 0, 1) := by decide +kernel
theorem dX3_isAlikeAt_68 : decode cX3_isAlikeAt 68 = .ok (.getfield 15, 3) := by decide +kernel
theorem dX3_isAlikeAt_71 : decode cX3_isAlikeAt 71 = .ok (.iload_n 1, 1) := by decide +kernel
theorem dX3_isAlikeAt_72 : decode cX3_isAlikeAt 72 = .ok (.iaload, 1) := by decide +kernel
theorem dX3_isAlikeAt_73 : decode cX3_isAlikeAt 73 = .ok (.aload_n 2, 1) := by decide +kernel
theorem dX3_isAlikeAt_74 : decode cX3_isAlikeAt 74 = .ok (.getfield 15, 3) := by decide +kernel
theorem dX3_isAlikeAt_77 : decode cX3_isAlikeAt 77 = .ok (.iload_n 3, 1) := by decide +kernel
theorem dX3_isAlikeAt_78 : decode cX3_isAlikeAt 78 = .ok (.iaload, 1) := by decide +kernel
theorem dX3_isAlikeAt_79 : decode cX3_isAlikeAt 79 = .ok (.if_icmp .ne 7, 3) := by decide +kernel
theorem dX3_isAlikeAt_82 : decode cX3_isAlikeAt 82 = .ok (.iconst 1, 1) := by decide +kernel
theorem dX3_isAlikeAt_83 : decode cX3_isAlikeAt 83 = .ok (.goto 4, 3) := by decide +kernel
theorem dX3_isAlikeAt_86 : decode cX3_isAlikeAt 86 = .ok (.iconst 0, 1) := by decide +kernel
theorem dX3_isAlikeAt_87 : decode cX3_isAlikeAt 87 = .ok (.ireturn, 1) := by decide +kernel
theorem dX4_init_0 : decode cX4_init 0 = .ok (.aload_n 0, 1) := by decide +kernel
theorem dX4_init_1 : decode cX4_init 1 = .ok (.invokespecial 3, 3) := by decide +kernel
theorem dX4_init_4 : decode cX4_init 4 = .ok (.aload_n 0, 1) := by decide +kernel
theorem dX4_init_5 : decode cX4_init 5 = .ok (.bipush 8, 2) := by decide +kernel
theorem dX4_init_7 : decode cX4_init 7 = .ok (.newarray .int, 2) := by decide +kernel
theorem dX4_init_9 : decode cX4_init 9 = .ok (.putfield 9, 3) := by decide +kernel
theorem dX4_init_12 : decode cX4_init 12 = .ok (.aload_n 0, 1) := by decide +kernel
theorem dX4_init_13 : decode cX4_init 13 = .ok (.iconst 0, 1) := by decide +kernel
theorem dX4_init_14 : decode cX4_init 14 = .ok (.putfield 15, 3) := by decide +kernel
theorem dX4_init_17 : decode cX4_init 17 = .ok (.return_, 1) := by decide +kernel
theorem dX4_isFull_0 : decode cX4_isFull 0 = .ok (.aload_n 0, 1) := by decide +kernel
theorem dX4_isFull_1 : decode cX4_isFull 1 = .ok (.getfield 15, 3) := by decide +kernel
theorem dX4_isFull_4 : decode cX4_isFull 4 = .ok (.bipush 8, 2) := by decide +kernel
theorem dX4_isFull_6 : decode cX4_isFull 6 = .ok (.if_icmp .lt 7, 3) := by decide +kernel
theorem dX4_isFull_9 : decode cX4_isFull 9 = .ok (.iconst 1, 1) := by decide +kernel
theorem dX4_isFull_10 : decode cX4_isFull 10 = .ok (.goto 4, 3) := by decide +kernel
theorem dX4_isFull_13 : decode cX4_isFull 13 = .ok (.iconst 0, 1) := by decide +kernel
theorem dX4_isFull_14 : decode cX4_isFull 14 = .ok (.ireturn, 1) := by decide +kernel
theorem dX4_push_0 : decode cX4_push 0 = .ok (.aload_n 0, 1) := by decide +kernel
theorem dX4_push_1 : decode cX4_push 1 = .ok (.getfield 15, 3) := by decide +kernel
theorem dX4_push_4 : decode cX4_push 4 = .ok (.ifCond .lt 32, 3) := by decide +kernel
theorem dX4_push_7 : decode cX4_push 7 = .ok (.aload_n 0, 1) := by decide +kernel
theorem dX4_push_8 : decode cX4_push 8 = .ok (.getfield 15, 3) := by decide +kernel
theorem dX4_push_11 : decode cX4_push 11 = .ok (.bipush 8, 2) := by decide +kernel
theorem dX4_push_13 : decode cX4_push 13 = .ok (.if_icmp .ge 23, 3) := by decide +kernel
theorem dX4_push_16 : decode cX4_push 16 = .ok (.aload_n 0, 1) := by decide +kernel
theorem dX4_push_17 : decode cX4_push 17 = .ok (.getfield 9, 3) := by decide +kernel
theorem dX4_push_20 : decode cX4_push 20 = .ok (.aload_n 0, 1) := by decide +kernel
theorem dX4_push_21 : decode cX4_push 21 = .ok (.getfield 15, 3) := by decide +kernel
theorem dX4_push_24 : decode cX4_push 24 = .ok (.iload_n 1, 1) := by decide +kernel
theorem dX4_push_25 : decode cX4_push 25 = .ok (.iastore, 1) := by decide +kernel
theorem dX4_push_26 : decode cX4_push 26 = .ok (.aload_n 0, 1) := by decide +kernel
theorem dX4_push_27 : decode cX4_push 27 = .ok (.dup, 1) := by decide +kernel
theorem dX4_push_28 : decode cX4_push 28 = .ok (.getfield 15, 3) := by decide +kernel
theorem dX4_push_31 : decode cX4_push 31 = .ok (.iconst 1, 1) := by decide +kernel
theorem dX4_push_32 : decode cX4_push 32 = .ok (.iadd, 1) := by decide +kernel
theorem dX4_push_33 : decode cX4_push 33 = .ok (.putfield 15, 3) := by decide +kernel
theorem dX4_push_36 : decode cX4_push 36 = .ok (.return_, 1) := by decide +kernel
theorem dX4_pop_0 : decode cX4_pop 0 = .ok (.aload_n 0, 1) := by decide +kernel
theorem dX4_pop_1 : decode cX4_pop 1 = .ok (.getfield 15, 3) := by decide +kernel
theorem dX4_pop_4 : decode cX4_pop 4 = .ok (.ifCond .le 12, 3) := by decide +kernel
theorem dX4_pop_7 : decode cX4_pop 7 = .ok (.aload_n 0, 1) := by decide +kernel
theorem dX4_pop_8 : decode cX4_pop 8 = .ok (.getfield 15, 3) := by decide +kernel
theorem dX4_pop_11 : decode cX4_pop 11 = .ok (.bipush 8, 2) := by decide +kernel
theorem dX4_pop_13 : decode cX4_pop 13 = .ok (.if_icmp .le 5, 3) := by decide +kernel
theorem dX4_pop_16 : decode cX4_pop 16 = .ok (.iconst 0, 1) := by decide +kernel
theorem dX4_pop_17 : decode cX4_pop 17 = .ok (.ireturn, 1) := by decide +kernel
theorem dX4_pop_18 : decode cX4_pop 18 = .ok (.aload_n 0, 1) := by decide +kernel
theorem dX4_pop_19 : decode cX4_pop 19 = .ok (.dup, 1) := by decide +kernel
theorem dX4_pop_20 : decode cX4_pop 20 = .ok (.getfield 15, 3) := by decide +kernel
theorem dX4_pop_23 : decode cX4_pop 23 = .ok (.iconst 1, 1) := by decide +kernel
theorem dX4_pop_24 : decode cX4_pop 24 = .ok (.isub, 1) := by decide +kernel
theorem dX4_pop_25 : decode cX4_pop 25 = .ok (.putfield 15, 3) := by decide +kernel
theorem dX4_pop_28 : decode cX4_pop 28 = .ok (.aload_n 0, 1) := by decide +kernel
theorem dX4_pop_29 : decode cX4_pop 29 = .ok (.getfield 9, 3) := by decide +kernel
theorem dX4_pop_32 : decode cX4_pop 32 = .ok (.aload_n 0, 1) := by decide +kernel
theorem dX4_pop_33 : decode cX4_pop 33 = .ok (.getfield 15, 3) := by decide +kernel
theorem dX4_pop_36 : decode cX4_pop 36 = .ok (.iaload, 1) := by decide +kernel
theorem dX4_pop_37 : decode cX4_pop 37 = .ok (.ireturn, 1) := by decide +kernel
theorem dX4_at_0 : decode cX4_at 0 = .ok (.iload_n 1, 1) := by decide +kernel
theorem dX4_at_1 : decode cX4_at 1 = .ok (.ifCond .lt 26, 3) := by decide +kernel
theorem dX4_at_4 : decode cX4_at 4 = .ok (.iload_n 1, 1) := by decide +kernel
theorem dX4_at_5 : decode cX4_at 5 = .ok (.aload_n 0, 1) := by decide +kernel
theorem dX4_at_6 : decode cX4_at 6 = .ok (.getfield 15, 3) := by decide +kernel
theorem dX4_at_9 : decode cX4_at 9 = .ok (.if_icmp .ge 18, 3) := by decide +kernel
theorem dX4_at_12 : decode cX4_at 12 = .ok (.iload_n 1, 1) := by decide +kernel
theorem dX4_at_13 : decode cX4_at 13 = .ok (.bipush 8, 2) := by decide +kernel
theorem dX4_at_15 : decode cX4_at 15 = .ok (.if_icmp .ge 12, 3) := by decide +kernel
theorem dX4_at_18 : decode cX4_at 18 = .ok (.aload_n 0, 1) := by decide +kernel
theorem dX4_at_19 : decode cX4_at 19 = .ok (.getfield 9, 3) := by decide +kernel
theorem dX4_at_22 : decode cX4_at 22 = .ok (.iload_n 1, 1) := by decide +kernel
theorem dX4_at_23 : decode cX4_at 23 = .ok (.iaload, 1) := by decide +kernel
theorem dX4_at_24 : decode cX4_at 24 = .ok (.goto 4, 3) := by decide +kernel
theorem dX4_at_27 : decode cX4_at 27 = .ok (.iconst 0, 1) := by decide +kernel
theorem dX4_at_28 : decode cX4_at 28 = .ok (.ireturn, 1) := by decide +kernel
theorem dX4_copyFrom_0 : decode cX4_copyFrom 0 = .ok (.aload_n 1, 1) := by decide +kernel
theorem dX4_copyFrom_1 : decode cX4_copyFrom 1 = .ok (.getfield 9, 3) := by decide +kernel
theorem dX4_copyFrom_4 : decode cX4_copyFrom 4 = .ok (.iconst 0, 1) := by decide +kernel
theorem dX4_copyFrom_5 : decode cX4_copyFrom 5 = .ok (.aload_n 0, 1) := by decide +kernel
theorem dX4_copyFrom_6 : decode cX4_copyFrom 6 = .ok (.getfield 9, 3) := by decide +kernel
theorem dX4_copyFrom_9 : decode cX4_copyFrom 9 = .ok (.iconst 0, 1) := by decide +kernel
theorem dX4_copyFrom_10 : decode cX4_copyFrom 10 = .ok (.bipush 8, 2) := by decide +kernel
theorem dX4_copyFrom_12 : decode cX4_copyFrom 12 = .ok (.invokestatic 19, 3) := by decide +kernel
theorem dX4_copyFrom_15 : decode cX4_copyFrom 15 = .ok (.aload_n 0, 1) := by decide +kernel
theorem dX4_copyFrom_16 : decode cX4_copyFrom 16 = .ok (.aload_n 1, 1) := by decide +kernel
theorem dX4_copyFrom_17 : decode cX4_copyFrom 17 = .ok (.getfield 15, 3) := by decide +kernel
theorem dX4_copyFrom_20 : decode cX4_copyFrom 20 = .ok (.putfield 15, 3) := by decide +kernel
theorem dX4_copyFrom_23 : decode cX4_copyFrom 23 = .ok (.return_, 1) := by decide +kernel
theorem dX4_isWithin_0 : decode cX4_isWithin 0 = .ok (.aload_n 0, 1) := by decide +kernel
theorem dX4_isWithin_1 : decode cX4_isWithin 1 = .ok (.getfield 15, 3) := by decide +kernel
theorem dX4_isWithin_4 : decode cX4_isWithin 4 = .ok (.aload_n 2, 1) := by decide +kernel
theorem dX4_isWithin_5 : decode cX4_isWithin 5 = .ok (.getfield 15, 3) := by decide +kernel
theorem dX4_isWithin_8 : decode cX4_isWithin 8 = .ok (.if_icmp .eq 5, 3) := by decide +kernel
theorem dX4_isWithin_11 : decode cX4_isWithin 11 = .ok (.iconst 0, 1) := by decide +kernel
theorem dX4_isWithin_12 : decode cX4_isWithin 12 = .ok (.ireturn, 1) := by decide +kernel
theorem dX4_isWithin_13 : decode cX4_isWithin 13 = .ok (.iconst 0, 1) := by decide +kernel
theorem dX4_isWithin_14 : decode cX4_isWithin 14 = .ok (.istore_n 3, 1) := by decide +kernel
theorem dX4_isWithin_15 : decode cX4_isWithin 15 = .ok (.iload_n 3, 1) := by decide +kernel
theorem dX4_isWithin_16 : decode cX4_isWithin 16 = .ok (.aload_n 0, 1) := by decide +kernel
theorem dX4_isWithin_17 : decode cX4_isWithin 17 = .ok (.getfield 15, 3) := by decide +kernel
theorem dX4_isWithin_20 : decode cX4_isWithin 20 = .ok (.if_icmp .ge 29, 3) := by decide +kernel
theorem dX4_isWithin_23 : decode cX4_isWithin 23 = .ok (.aload_n 0, 1) := by decide +kernel
theorem dX4_isWithin_24 : decode cX4_isWithin 24 = .ok (.iload_n 3, 1) := by decide +kernel
theorem dX4_isWithin_25 : decode cX4_isWithin 25 = .ok (.invokevirtual 25, 3) := by decide +kernel
theorem dX4_isWithin_28 : decode cX4_isWithin 28 = .ok (.aload_n 2, 1) := by decide +kernel
theorem dX4_isWithin_29 : decode cX4_isWithin 29 = .ok (.iload_n 3, 1) := by decide +kernel
theorem dX4_isWithin_30 : decode cX4_isWithin 30 = .ok (.invokevirtual 25, 3) := by decide +kernel
theorem dX4_isWithin_33 : decode cX4_isWithin 33 = .ok (.isub, 1) := by decide +kernel
theorem dX4_isWithin_34 : decode cX4_isWithin 34 = .ok (.invokestatic 29, 3) := by decide +kernel
theorem dX4_isWithin_37 : decode cX4_isWithin 37 = .ok (.iload_n 1, 1) := by decide +kernel
theorem dX4_isWithin_38 : decode cX4_isWithin 38 = .ok (.if_icmp .le 5, 3) := by decide +kernel
theorem dX4_isWithin_41 : decode cX4_isWithin 41 = .ok (.iconst 0, 1) := by decide +kernel
theorem dX4_isWithin_42 : decode cX4_isWithin 42 = .ok (.ireturn, 1) := by decide +kernel
theorem dX4_isWithin_43 : decode cX4_isWithin 43 = .ok (.iinc 3 1, 3) := by decide +kernel
theorem dX4_isWithin_46 : decode cX4_isWithin 46 = .ok (.goto (-31), 3) := by decide +kernel
theorem dX4_isWithin_49 : decode cX4_isWithin 49 = .ok (.iconst 1, 1) := by decide +kernel
theorem dX4_isWithin_50 : decode cX4_isWithin 50 = .ok (.ireturn, 1) := by decide +kernel
theorem dX5_init_0 : decode cX5_init 0 = .ok (.aload_n 0, 1) := by decide +kernel
theorem dX5_init_1 : decode cX5_init 1 = .ok (.invokespecial 3, 3) := by decide +kernel
theorem dX5_init_4 : decode cX5_init 4 = .ok (.aload_n 0, 1) := by decide +kernel
theorem dX5_init_5 : decode cX5_init 5 = .ok (.bipush 8, 2) := by decide +kernel
theorem dX5_init_7 : decode cX5_init 7 = .ok (.newarray .int, 2) := by decide +kernel
theorem dX5_init_9 : decode cX5_init 9 = .ok (.putfield 9, 3) := by decide +kernel
theorem dX5_init_12 : decode cX5_init 12 = .ok (.aload_n 0, 1) := by decide +kernel
theorem dX5_init_13 : decode cX5_init 13 = .ok (.bipush 8, 2) := by decide +kernel
theorem dX5_init_15 : decode cX5_init 15 = .ok (.newarray .int, 2) := by decide +kernel
theorem dX5_init_17 : decode cX5_init 17 = .ok (.putfield 15, 3) := by decide +kernel
theorem dX5_init_20 : decode cX5_init 20 = .ok (.aload_n 0, 1) := by decide +kernel
theorem dX5_init_21 : decode cX5_init 21 = .ok (.bipush 8, 2) := by decide +kernel
theorem dX5_init_23 : decode cX5_init 23 = .ok (.newarray .int, 2) := by decide +kernel
theorem dX5_init_25 : decode cX5_init 25 = .ok (.putfield 18, 3) := by decide +kernel
theorem dX5_init_28 : decode cX5_init 28 = .ok (.aload_n 0, 1) := by decide +kernel
theorem dX5_init_29 : decode cX5_init 29 = .ok (.bipush 48, 2) := by decide +kernel
theorem dX5_init_31 : decode cX5_init 31 = .ok (.newarray .int, 2) := by decide +kernel
theorem dX5_init_33 : decode cX5_init 33 = .ok (.putfield 21, 3) := by decide +kernel
theorem dX5_init_36 : decode cX5_init 36 = .ok (.aload_n 0, 1) := by decide +kernel
theorem dX5_init_37 : decode cX5_init 37 = .ok (.bipush 48, 2) := by decide +kernel
theorem dX5_init_39 : decode cX5_init 39 = .ok (.newarray .boolean, 2) := by decide +kernel
theorem dX5_init_41 : decode cX5_init 41 = .ok (.putfield 24, 3) := by decide +kernel
theorem dX5_init_44 : decode cX5_init 44 = .ok (.return_, 1) := by decide +kernel
theorem dX5_wipe_0 : decode cX5_wipe 0 = .ok (.aload_n 0, 1) := by decide +kernel
theorem dX5_wipe_1 : decode cX5_wipe 1 = .ok (.getfield 9, 3) := by decide +kernel
theorem dX5_wipe_4 : decode cX5_wipe 4 = .ok (.iconst 0, 1) := by decide +kernel
theorem dX5_wipe_5 : decode cX5_wipe 5 = .ok (.invokestatic 28, 3) := by decide +kernel
theorem dX5_wipe_8 : decode cX5_wipe 8 = .ok (.aload_n 0, 1) := by decide +kernel
theorem dX5_wipe_9 : decode cX5_wipe 9 = .ok (.getfield 15, 3) := by decide +kernel
theorem dX5_wipe_12 : decode cX5_wipe 12 = .ok (.iconst 0, 1) := by decide +kernel
theorem dX5_wipe_13 : decode cX5_wipe 13 = .ok (.invokestatic 28, 3) := by decide +kernel
theorem dX5_wipe_16 : decode cX5_wipe 16 = .ok (.aload_n 0, 1) := by decide +kernel
theorem dX5_wipe_17 : decode cX5_wipe 17 = .ok (.getfield 18, 3) := by decide +kernel
theorem dX5_wipe_20 : decode cX5_wipe 20 = .ok (.iconst 0, 1) := by decide +kernel
theorem dX5_wipe_21 : decode cX5_wipe 21 = .ok (.invokestatic 28, 3) := by decide +kernel
theorem dX5_wipe_24 : decode cX5_wipe 24 = .ok (.aload_n 0, 1) := by decide +kernel
theorem dX5_wipe_25 : decode cX5_wipe 25 = .ok (.getfield 21, 3) := by decide +kernel
theorem dX5_wipe_28 : decode cX5_wipe 28 = .ok (.iconst 0, 1) := by decide +kernel
theorem dX5_wipe_29 : decode cX5_wipe 29 = .ok (.invokestatic 28, 3) := by decide +kernel
theorem dX5_wipe_32 : decode cX5_wipe 32 = .ok (.iconst 0, 1) := by decide +kernel
theorem dX5_wipe_33 : decode cX5_wipe 33 = .ok (.istore_n 1, 1) := by decide +kernel
theorem dX5_wipe_34 : decode cX5_wipe 34 = .ok (.iload_n 1, 1) := by decide +kernel
theorem dX5_wipe_35 : decode cX5_wipe 35 = .ok (.aload_n 0, 1) := by decide +kernel
theorem dX5_wipe_36 : decode cX5_wipe 36 = .ok (.getfield 24, 3) := by decide +kernel
theorem dX5_wipe_39 : decode cX5_wipe 39 = .ok (.arraylength, 1) := by decide +kernel
theorem dX5_wipe_40 : decode cX5_wipe 40 = .ok (.if_icmp .ge 16, 3) := by decide +kernel
theorem dX5_wipe_43 : decode cX5_wipe 43 = .ok (.aload_n 0, 1) := by decide +kernel
theorem dX5_wipe_44 : decode cX5_wipe 44 = .ok (.getfield 24, 3) := by decide +kernel
theorem dX5_wipe_47 : decode cX5_wipe 47 = .ok (.iload_n 1, 1) := by decide +kernel
theorem dX5_wipe_48 : decode cX5_wipe 48 = .ok (.iconst 0, 1) := by decide +kernel
theorem dX5_wipe_49 : decode cX5_wipe 49 = .ok (.bastore, 1) := by decide +kernel
theorem dX5_wipe_50 : decode cX5_wipe 50 = .ok (.iinc 1 1, 3) := by decide +kernel
theorem dX5_wipe_53 : decode cX5_wipe 53 = .ok (.goto (-19), 3) := by decide +kernel
theorem dX5_wipe_56 : decode cX5_wipe 56 = .ok (.return_, 1) := by decide +kernel
theorem dX5_count_0 : decode cX5_count 0 = .ok (.aload_n 1, 1) := by decide +kernel
theorem dX5_count_1 : decode cX5_count 1 = .ok (.getfield 34, 3) := by decide +kernel
theorem dX5_count_4 : decode cX5_count 4 = .ok (.aload_n 1, 1) := by decide +kernel
theorem dX5_count_5 : decode cX5_count 5 = .ok (.getfield 40, 3) := by decide +kernel
theorem dX5_count_8 : decode cX5_count 8 = .ok (.getfield 44, 3) := by decide +kernel
theorem dX5_count_11 : decode cX5_count 11 = .ok (.invokestatic 49, 3) := by decide +kernel
theorem dX5_count_14 : decode cX5_count 14 = .ok (.istore_n 3, 1) := by decide +kernel
theorem dX5_count_15 : decode cX5_count 15 = .ok (.aload_n 0, 1) := by decide +kernel
theorem dX5_count_16 : decode cX5_count 16 = .ok (.getfield 24, 3) := by decide +kernel
theorem dX5_count_19 : decode cX5_count 19 = .ok (.iload_n 3, 1) := by decide +kernel
theorem dX5_count_20 : decode cX5_count 20 = .ok (.baload, 1) := by decide +kernel
theorem dX5_count_21 : decode cX5_count 21 = .ok (.ifCond .eq 4, 3) := by decide +kernel
theorem dX5_count_24 : decode cX5_count 24 = .ok (.return_, 1) := by decide +kernel
theorem dX5_count_25 : decode cX5_count 25 = .ok (.iload_n 2, 1) := by decide +kernel
theorem dX5_count_26 : decode cX5_count 26 = .ok (.ifCond .ne 14, 3) := by decide +kernel
theorem dX5_count_29 : decode cX5_count 29 = .ok (.aload_n 0, 1) := by decide +kernel
theorem dX5_count_30 : decode cX5_count 30 = .ok (.getfield 21, 3) := by decide +kernel
theorem dX5_count_33 : decode cX5_count 33 = .ok (.iload_n 3, 1) := by decide +kernel
theorem dX5_count_34 : decode cX5_count 34 = .ok (.dup2, 1) := by decide +kernel
theorem dX5_count_35 : decode cX5_count 35 = .ok (.iaload, 1) := by decide +kernel
theorem dX5_count_36 : decode cX5_count 36 = .ok (.iconst 1, 1) := by decide +kernel
theorem dX5_count_37 : decode cX5_count 37 = .ok (.iadd, 1) := by decide +kernel
theorem dX5_count_38 : decode cX5_count 38 = .ok (.iastore, 1) := by decide +kernel
theorem dX5_count_39 : decode cX5_count 39 = .ok (.return_, 1) := by decide +kernel
theorem dX5_count_40 : decode cX5_count 40 = .ok (.aload_n 0, 1) := by decide +kernel
theorem dX5_count_41 : decode cX5_count 41 = .ok (.getfield 24, 3) := by decide +kernel
theorem dX5_count_44 : decode cX5_count 44 = .ok (.iload_n 3, 1) := by decide +kernel
theorem dX5_count_45 : decode cX5_count 45 = .ok (.iconst 1, 1) := by decide +kernel
theorem dX5_count_46 : decode cX5_count 46 = .ok (.bastore, 1) := by decide +kernel
theorem dX5_count_47 : decode cX5_count 47 = .ok (.aload_n 0, 1) := by decide +kernel
theorem dX5_count_48 : decode cX5_count 48 = .ok (.getfield 9, 3) := by decide +kernel
theorem dX5_count_51 : decode cX5_count 51 = .ok (.aload_n 1, 1) := by decide +kernel
theorem dX5_count_52 : decode cX5_count 52 = .ok (.getfield 34, 3) := by decide +kernel
theorem dX5_count_55 : decode cX5_count 55 = .ok (.dup2, 1) := by decide +kernel
theorem dX5_count_56 : decode cX5_count 56 = .ok (.iaload, 1) := by decide +kernel
theorem dX5_count_57 : decode cX5_count 57 = .ok (.iconst 1, 1) := by decide +kernel
theorem dX5_count_58 : decode cX5_count 58 = .ok (.iadd, 1) := by decide +kernel
theorem dX5_count_59 : decode cX5_count 59 = .ok (.iastore, 1) := by decide +kernel
theorem dX5_count_60 : decode cX5_count 60 = .ok (.aload_n 0, 1) := by decide +kernel
theorem dX5_count_61 : decode cX5_count 61 = .ok (.getfield 15, 3) := by decide +kernel
theorem dX5_count_64 : decode cX5_count 64 = .ok (.aload_n 1, 1) := by decide +kernel
theorem dX5_count_65 : decode cX5_count 65 = .ok (.getfield 34, 3) := by decide +kernel
theorem dX5_count_68 : decode cX5_count 68 = .ok (.dup2, 1) := by decide +kernel
theorem dX5_count_69 : decode cX5_count 69 = .ok (.iaload, 1) := by decide +kernel
theorem dX5_count_70 : decode cX5_count 70 = .ok (.aload_n 1, 1) := by decide +kernel
theorem dX5_count_71 : decode cX5_count 71 = .ok (.getfield 53, 3) := by decide +kernel
theorem dX5_count_74 : decode cX5_count 74 = .ok (.bipush 20, 2) := by decide +kernel
theorem dX5_count_76 : decode cX5_count 76 = .ok (.aload_n 0, 1) := by decide +kernel
theorem dX5_count_77 : decode cX5_count 77 = .ok (.getfield 21, 3) := by decide +kernel
theorem dX5_count_80 : decode cX5_count 80 = .ok (.iload_n 3, 1) := by decide +kernel
theorem dX5_count_81 : decode cX5_count 81 = .ok (.iaload, 1) := by decide +kernel
theorem dX5_count_82 : decode cX5_count 82 = .ok (.imul, 1) := by decide +kernel
theorem dX5_count_83 : decode cX5_count 83 = .ok (.iadd, 1) := by decide +kernel
theorem dX5_count_84 : decode cX5_count 84 = .ok (.iadd, 1) := by decide +kernel
theorem dX5_count_85 : decode cX5_count 85 = .ok (.iastore, 1) := by decide +kernel
theorem dX5_count_86 : decode cX5_count 86 = .ok (.aload_n 0, 1) := by decide +kernel
theorem dX5_count_87 : decode cX5_count 87 = .ok (.getfield 18, 3) := by decide +kernel
theorem dX5_count_90 : decode cX5_count 90 = .ok (.aload_n 1, 1) := by decide +kernel
theorem dX5_count_91 : decode cX5_count 91 = .ok (.getfield 34, 3) := by decide +kernel
theorem dX5_count_94 : decode cX5_count 94 = .ok (.aload_n 0, 1) := by decide +kernel
theorem dX5_count_95 : decode cX5_count 95 = .ok (.getfield 18, 3) := by decide +kernel
theorem dX5_count_98 : decode cX5_count 98 = .ok (.aload_n 1, 1) := by decide +kernel
theorem dX5_count_99 : decode cX5_count 99 = .ok (.getfield 34, 3) := by decide +kernel
theorem dX5_count_102 : decode cX5_count 102 = .ok (.iaload, 1) := by decide +kernel
theorem dX5_count_103 : decode cX5_count 103 = .ok (.aload_n 1, 1) := by decide +kernel
theorem dX5_count_104 : decode cX5_count 104 = .ok (.getfield 53, 3) := by decide +kernel
theorem dX5_count_107 : decode cX5_count 107 = .ok (.invokestatic 56, 3) := by decide +kernel
theorem dX5_count_110 : decode cX5_count 110 = .ok (.iastore, 1) := by decide +kernel
theorem dX5_count_111 : decode cX5_count 111 = .ok (.return_, 1) := by decide +kernel
theorem dX5_isAhead_0 : decode cX5_isAhead 0 = .ok (.aload_n 0, 1) := by decide +kernel
theorem dX5_isAhead_1 : decode cX5_isAhead 1 = .ok (.getfield 9, 3) := by decide +kernel
theorem dX5_isAhead_4 : decode cX5_isAhead 4 = .ok (.iload_n 1, 1) := by decide +kernel
theorem dX5_isAhead_5 : decode cX5_isAhead 5 = .ok (.iaload, 1) := by decide +kernel
theorem dX5_isAhead_6 : decode cX5_isAhead 6 = .ok (.aload_n 0, 1) := by decide +kernel
theorem dX5_isAhead_7 : decode cX5_isAhead 7 = .ok (.getfield 9, 3) := by decide +kernel
theorem dX5_isAhead_10 : decode cX5_isAhead 10 = .ok (.iload_n 2, 1) := by decide +kernel
theorem dX5_isAhead_11 : decode cX5_isAhead 11 = .ok (.iaload, 1) := by decide +kernel
theorem dX5_isAhead_12 : decode cX5_isAhead 12 = .ok (.if_icmp .eq 24, 3) := by decide +kernel
theorem dX5_isAhead_15 : decode cX5_isAhead 15 = .ok (.aload_n 0, 1) := by decide +kernel
theorem dX5_isAhead_16 : decode cX5_isAhead 16 = .ok (.getfield 9, 3) := by decide +kernel
theorem dX5_isAhead_19 : decode cX5_isAhead 19 = .ok (.iload_n 1, 1) := by decide +kernel
theorem dX5_isAhead_20 : decode cX5_isAhead 20 = .ok (.iaload, 1) := by decide +kernel
theorem dX5_isAhead_21 : decode cX5_isAhead 21 = .ok (.aload_n 0, 1) := by decide +kernel
theorem dX5_isAhead_22 : decode cX5_isAhead 22 = .ok (.getfield 9, 3) := by decide +kernel
theorem dX5_isAhead_25 : decode cX5_isAhead 25 = .ok (.iload_n 2, 1) := by decide +kernel
theorem dX5_isAhead_26 : decode cX5_isAhead 26 = .ok (.iaload, 1) := by decide +kernel
theorem dX5_isAhead_27 : decode cX5_isAhead 27 = .ok (.if_icmp .le 7, 3) := by decide +kernel
theorem dX5_isAhead_30 : decode cX5_isAhead 30 = .ok (.iconst 1, 1) := by decide +kernel
theorem dX5_isAhead_31 : decode cX5_isAhead 31 = .ok (.goto 4, 3) := by decide +kernel
theorem dX5_isAhead_34 : decode cX5_isAhead 34 = .ok (.iconst 0, 1) := by decide +kernel
theorem dX5_isAhead_35 : decode cX5_isAhead 35 = .ok (.ireturn, 1) := by decide +kernel
theorem dX5_isAhead_36 : decode cX5_isAhead 36 = .ok (.aload_n 0, 1) := by decide +kernel
theorem dX5_isAhead_37 : decode cX5_isAhead 37 = .ok (.getfield 15, 3) := by decide +kernel
theorem dX5_isAhead_40 : decode cX5_isAhead 40 = .ok (.iload_n 1, 1) := by decide +kernel
theorem dX5_isAhead_41 : decode cX5_isAhead 41 = .ok (.iaload, 1) := by decide +kernel
theorem dX5_isAhead_42 : decode cX5_isAhead 42 = .ok (.aload_n 0, 1) := by decide +kernel
theorem dX5_isAhead_43 : decode cX5_isAhead 43 = .ok (.getfield 15, 3) := by decide +kernel
theorem dX5_isAhead_46 : decode cX5_isAhead 46 = .ok (.iload_n 2, 1) := by decide +kernel
theorem dX5_isAhead_47 : decode cX5_isAhead 47 = .ok (.iaload, 1) := by decide +kernel
theorem dX5_isAhead_48 : decode cX5_isAhead 48 = .ok (.if_icmp .eq 24, 3) := by decide +kernel
theorem dX5_isAhead_51 : decode cX5_isAhead 51 = .ok (.aload_n 0, 1) := by decide +kernel
theorem dX5_isAhead_52 : decode cX5_isAhead 52 = .ok (.getfield 15, 3) := by decide +kernel
theorem dX5_isAhead_55 : decode cX5_isAhead 55 = .ok (.iload_n 1, 1) := by decide +kernel
theorem dX5_isAhead_56 : decode cX5_isAhead 56 = .ok (.iaload, 1) := by decide +kernel
theorem dX5_isAhead_57 : decode cX5_isAhead 57 = .ok (.aload_n 0, 1) := by decide +kernel
theorem dX5_isAhead_58 : decode cX5_isAhead 58 = .ok (.getfield 15, 3) := by decide +kernel
theorem dX5_isAhead_61 : decode cX5_isAhead 61 = .ok (.iload_n 2, 1) := by decide +kernel
theorem dX5_isAhead_62 : decode cX5_isAhead 62 = .ok (.iaload, 1) := by decide +kernel
theorem dX5_isAhead_63 : decode cX5_isAhead 63 = .ok (.if_icmp .ge 7, 3) := by decide +kernel
theorem dX5_isAhead_66 : decode cX5_isAhead 66 = .ok (.iconst 1, 1) := by decide +kernel
theorem dX5_isAhead_67 : decode cX5_isAhead 67 = .ok (.goto 4, 3) := by decide +kernel
theorem dX5_isAhead_70 : decode cX5_isAhead 70 = .ok (.iconst 0, 1) := by decide +kernel
theorem dX5_isAhead_71 : decode cX5_isAhead 71 = .ok (.ireturn, 1) := by decide +kernel
theorem dX5_isAhead_72 : decode cX5_isAhead 72 = .ok (.aload_n 0, 1) := by decide +kernel
theorem dX5_isAhead_73 : decode cX5_isAhead 73 = .ok (.getfield 18, 3) := by decide +kernel
theorem dX5_isAhead_76 : decode cX5_isAhead 76 = .ok (.iload_n 1, 1) := by decide +kernel
theorem dX5_isAhead_77 : decode cX5_isAhead 77 = .ok (.iaload, 1) := by decide +kernel
theorem dX5_isAhead_78 : decode cX5_isAhead 78 = .ok (.aload_n 0, 1) := by decide +kernel
theorem dX5_isAhead_79 : decode cX5_isAhead 79 = .ok (.getfield 18, 3) := by decide +kernel
theorem dX5_isAhead_82 : decode cX5_isAhead 82 = .ok (.iload_n 2, 1) := by decide +kernel
theorem dX5_isAhead_83 : decode cX5_isAhead 83 = .ok (.iaload, 1) := by decide +kernel
theorem dX5_isAhead_84 : decode cX5_isAhead 84 = .ok (.if_icmp .eq 24, 3) := by decide +kernel
theorem dX5_isAhead_87 : decode cX5_isAhead 87 = .ok (.aload_n 0, 1) := by decide +kernel
theorem dX5_isAhead_88 : decode cX5_isAhead 88 = .ok (.getfield 18, 3) := by decide +kernel
theorem dX5_isAhead_91 : decode cX5_isAhead 91 = .ok (.iload_n 1, 1) := by decide +kernel
theorem dX5_isAhead_92 : decode cX5_isAhead 92 = .ok (.iaload, 1) := by decide +kernel
theorem dX5_isAhead_93 : decode cX5_isAhead 93 = .ok (.aload_n 0, 1) := by decide +kernel
theorem dX5_isAhead_94 : decode cX5_isAhead 94 = .ok (.getfield 18, 3) := by decide +kernel
theorem dX5_isAhead_97 : decode cX5_isAhead 97 = .ok (.iload_n 2, 1) := by decide +kernel
theorem dX5_isAhead_98 : decode cX5_isAhead 98 = .ok (.iaload, 1) := by decide +kernel
theorem dX5_isAhead_99 : decode cX5_isAhead 99 = .ok (.if_icmp .ge 7, 3) := by decide +kernel
theorem dX5_isAhead_102 : decode cX5_isAhead 102 = .ok (.iconst 1, 1) := by decide +kernel
theorem dX5_isAhead_103 : decode cX5_isAhead 103 = .ok (.goto 4, 3) := by decide +kernel
theorem dX5_isAhead_106 : decode cX5_isAhead 106 = .ok (.iconst 0, 1) := by decide +kernel
theorem dX5_isAhead_107 : decode cX5_isAhead 107 = .ok (.ireturn, 1) := by decide +kernel
theorem dX5_isAhead_108 : decode cX5_isAhead 108 = .ok (.iload_n 1, 1) := by decide +kernel
theorem dX5_isAhead_109 : decode cX5_isAhead 109 = .ok (.iload_n 2, 1) := by decide +kernel
theorem dX5_isAhead_110 : decode cX5_isAhead 110 = .ok (.if_icmp .ge 7, 3) := by decide +kernel
theorem dX5_isAhead_113 : decode cX5_isAhead 113 = .ok (.iconst 1, 1) := by decide +kernel
theorem dX5_isAhead_114 : decode cX5_isAhead 114 = .ok (.goto 4, 3) := by decide +kernel
theorem dX5_isAhead_117 : decode cX5_isAhead 117 = .ok (.iconst 0, 1) := by decide +kernel
theorem dX5_isAhead_118 : decode cX5_isAhead 118 = .ok (.ireturn, 1) := by decide +kernel
theorem dX5_placeOf_0 : decode cX5_placeOf 0 = .ok (.iconst 0, 1) := by decide +kernel
theorem dX5_placeOf_1 : decode cX5_placeOf 1 = .ok (.istore_n 2, 1) := by decide +kernel
theorem dX5_placeOf_2 : decode cX5_placeOf 2 = .ok (.iconst 0, 1) := by decide +kernel
theorem dX5_placeOf_3 : decode cX5_placeOf 3 = .ok (.istore_n 3, 1) := by decide +kernel
theorem dX5_placeOf_4 : decode cX5_placeOf 4 = .ok (.iload_n 3, 1) := by decide +kernel
theorem dX5_placeOf_5 : decode cX5_placeOf 5 = .ok (.bipush 8, 2) := by decide +kernel
theorem dX5_placeOf_7 : decode cX5_placeOf 7 = .ok (.if_icmp .ge 21, 3) := by decide +kernel
theorem dX5_placeOf_10 : decode cX5_placeOf 10 = .ok (.aload_n 0, 1) := by decide +kernel
theorem dX5_placeOf_11 : decode cX5_placeOf 11 = .ok (.iload_n 3, 1) := by decide +kernel
theorem dX5_placeOf_12 : decode cX5_placeOf 12 = .ok (.iload_n 1, 1) := by decide +kernel
theorem dX5_placeOf_13 : decode cX5_placeOf 13 = .ok (.invokevirtual 61, 3) := by decide +kernel
theorem dX5_placeOf_16 : decode cX5_placeOf 16 = .ok (.ifCond .eq 6, 3) := by decide +kernel
theorem dX5_placeOf_19 : decode cX5_placeOf 19 = .ok (.iinc 2 1, 3) := by decide +kernel
theorem dX5_placeOf_22 : decode cX5_placeOf 22 = .ok (.iinc 3 1, 3) := by decide +kernel
theorem dX5_placeOf_25 : decode cX5_placeOf 25 = .ok (.goto (-21), 3) := by decide +kernel
theorem dX5_placeOf_28 : decode cX5_placeOf 28 = .ok (.iload_n 2, 1) := by decide +kernel
theorem dX5_placeOf_29 : decode cX5_placeOf 29 = .ok (.ireturn, 1) := by decide +kernel
theorem dX6_init_0 : decode cX6_init 0 = .ok (.aload_n 0, 1) := by decide +kernel
theorem dX6_init_1 : decode cX6_init 1 = .ok (.invokespecial 1, 3) := by decide +kernel
theorem dX6_init_4 : decode cX6_init 4 = .ok (.aload_n 0, 1) := by decide +kernel
theorem dX6_init_5 : decode cX6_init 5 = .ok (.new 7, 3) := by decide +kernel
theorem dX6_init_8 : decode cX6_init 8 = .ok (.dup, 1) := by decide +kernel
theorem dX6_init_9 : decode cX6_init 9 = .ok (.invokespecial 9, 3) := by decide +kernel
theorem dX6_init_12 : decode cX6_init 12 = .ok (.putfield 10, 3) := by decide +kernel
theorem dX6_init_15 : decode cX6_init 15 = .ok (.aload_n 0, 1) := by decide +kernel
theorem dX6_init_16 : decode cX6_init 16 = .ok (.new 7, 3) := by decide +kernel
theorem dX6_init_19 : decode cX6_init 19 = .ok (.dup, 1) := by decide +kernel
theorem dX6_init_20 : decode cX6_init 20 = .ok (.invokespecial 9, 3) := by decide +kernel
theorem dX6_init_23 : decode cX6_init 23 = .ok (.putfield 16, 3) := by decide +kernel
theorem dX6_init_26 : decode cX6_init 26 = .ok (.aload_n 0, 1) := by decide +kernel
theorem dX6_init_27 : decode cX6_init 27 = .ok (.getfield 10, 3) := by decide +kernel
theorem dX6_init_30 : decode cX6_init 30 = .ok (.aload_n 1, 1) := by decide +kernel
theorem dX6_init_31 : decode cX6_init 31 = .ok (.invokevirtual 19, 3) := by decide +kernel
theorem dX6_init_34 : decode cX6_init 34 = .ok (.aload_n 0, 1) := by decide +kernel
theorem dX6_init_35 : decode cX6_init 35 = .ok (.getfield 16, 3) := by decide +kernel
theorem dX6_init_38 : decode cX6_init 38 = .ok (.aload_n 2, 1) := by decide +kernel
theorem dX6_init_39 : decode cX6_init 39 = .ok (.invokevirtual 19, 3) := by decide +kernel
theorem dX6_init_42 : decode cX6_init 42 = .ok (.aload_n 0, 1) := by decide +kernel
theorem dX6_init_43 : decode cX6_init 43 = .ok (.iload_n 3, 1) := by decide +kernel
theorem dX6_init_44 : decode cX6_init 44 = .ok (.putfield 23, 3) := by decide +kernel
theorem dX6_init_47 : decode cX6_init 47 = .ok (.return_, 1) := by decide +kernel
end
section
theorem dX7_init_0 : decode cX7_init 0 = .ok (.aload_n 0, 1) := by decide +kernel
theorem dX7_init_1 : decode cX7_init 1 = .ok (.invokespecial 1, 3) := by decide +kernel
theorem dX7_init_4 : decode cX7_init 4 = .ok (.aload_n 0, 1) := by decide +kernel
theorem dX7_init_5 : decode cX7_init 5 = .ok (.new 7, 3) := by decide +kernel
theorem dX7_init_8 : decode cX7_init 8 = .ok (.dup, 1) := by decide +kernel
theorem dX7_init_9 : decode cX7_init 9 = .ok (.invokespecial 9, 3) := by decide +kernel
theorem dX7_init_12 : decode cX7_init 12 = .ok (.putfield 10, 3) := by decide +kernel
theorem dX7_init_15 : decode cX7_init 15 = .ok (.aload_n 0, 1) := by decide +kernel
theorem dX7_init_16 : decode cX7_init 16 = .ok (.new 16, 3) := by decide +kernel
theorem dX7_init_19 : decode cX7_init 19 = .ok (.dup, 1) := by decide +kernel
theorem dX7_init_20 : decode cX7_init 20 = .ok (.invokespecial 18, 3) := by decide +kernel
theorem dX7_init_23 : decode cX7_init 23 = .ok (.putfield 19, 3) := by decide +kernel
theorem dX7_init_26 : decode cX7_init 26 = .ok (.aload_n 0, 1) := by decide +kernel
theorem dX7_init_27 : decode cX7_init 27 = .ok (.new 23, 3) := by decide +kernel
theorem dX7_init_30 : decode cX7_init 30 = .ok (.dup, 1) := by decide +kernel
theorem dX7_init_31 : decode cX7_init 31 = .ok (.invokespecial 25, 3) := by decide +kernel
theorem dX7_init_34 : decode cX7_init 34 = .ok (.putfield 26, 3) := by decide +kernel
theorem dX7_init_37 : decode cX7_init 37 = .ok (.aload_n 0, 1) := by decide +kernel
theorem dX7_init_38 : decode cX7_init 38 = .ok (.new 30, 3) := by decide +kernel
theorem dX7_init_41 : decode cX7_init 41 = .ok (.dup, 1) := by decide +kernel
theorem dX7_init_42 : decode cX7_init 42 = .ok (.invokespecial 32, 3) := by decide +kernel
theorem dX7_init_45 : decode cX7_init 45 = .ok (.putfield 33, 3) := by decide +kernel
theorem dX7_init_48 : decode cX7_init 48 = .ok (.aload_n 0, 1) := by decide +kernel
theorem dX7_init_49 : decode cX7_init 49 = .ok (.new 30, 3) := by decide +kernel
theorem dX7_init_52 : decode cX7_init 52 = .ok (.dup, 1) := by decide +kernel
theorem dX7_init_53 : decode cX7_init 53 = .ok (.invokespecial 32, 3) := by decide +kernel
theorem dX7_init_56 : decode cX7_init 56 = .ok (.putfield 37, 3) := by decide +kernel
theorem dX7_init_59 : decode cX7_init 59 = .ok (.aload_n 0, 1) := by decide +kernel
theorem dX7_init_60 : decode cX7_init 60 = .ok (.new 40, 3) := by decide +kernel
theorem dX7_init_63 : decode cX7_init 63 = .ok (.dup, 1) := by decide +kernel
theorem dX7_init_64 : decode cX7_init 64 = .ok (.invokespecial 42, 3) := by decide +kernel
theorem dX7_init_67 : decode cX7_init 67 = .ok (.putfield 43, 3) := by decide +kernel
theorem dX7_init_70 : decode cX7_init 70 = .ok (.aload_n 0, 1) := by decide +kernel
theorem dX7_init_71 : decode cX7_init 71 = .ok (.bipush 8, 2) := by decide +kernel
theorem dX7_init_73 : decode cX7_init 73 = .ok (.newarray .int, 2) := by decide +kernel
theorem dX7_init_75 : decode cX7_init 75 = .ok (.putfield 47, 3) := by decide +kernel
theorem dX7_init_78 : decode cX7_init 78 = .ok (.aload_n 0, 1) := by decide +kernel
theorem dX7_init_79 : decode cX7_init 79 = .ok (.bipush 8, 2) := by decide +kernel
theorem dX7_init_81 : decode cX7_init 81 = .ok (.newarray .int, 2) := by decide +kernel
theorem dX7_init_83 : decode cX7_init 83 = .ok (.putfield 51, 3) := by decide +kernel
theorem dX7_init_86 : decode cX7_init 86 = .ok (.aload_n 0, 1) := by decide +kernel
theorem dX7_init_87 : decode cX7_init 87 = .ok (.bipush 48, 2) := by decide +kernel
theorem dX7_init_89 : decode cX7_init 89 = .ok (.newarray .boolean, 2) := by decide +kernel
theorem dX7_init_91 : decode cX7_init 91 = .ok (.putfield 54, 3) := by decide +kernel
theorem dX7_init_94 : decode cX7_init 94 = .ok (.aload_n 0, 1) := by decide +kernel
theorem dX7_init_95 : decode cX7_init 95 = .ok (.bipush 17, 2) := by decide +kernel
theorem dX7_init_97 : decode cX7_init 97 = .ok (.newarray .int, 2) := by decide +kernel
theorem dX7_init_99 : decode cX7_init 99 = .ok (.putfield 58, 3) := by decide +kernel
theorem dX7_init_102 : decode cX7_init 102 = .ok (.aload_n 0, 1) := by decide +kernel
theorem dX7_init_103 : decode cX7_init 103 = .ok (.iconst 0, 1) := by decide +kernel
theorem dX7_init_104 : decode cX7_init 104 = .ok (.putfield 61, 3) := by decide +kernel
theorem dX7_init_107 : decode cX7_init 107 = .ok (.aload_n 0, 1) := by decide +kernel
theorem dX7_init_108 : decode cX7_init 108 = .ok (.iconst (-1), 1) := by decide +kernel
theorem dX7_init_109 : decode cX7_init 109 = .ok (.putfield 65, 3) := by decide +kernel
theorem dX7_init_112 : decode cX7_init 112 = .ok (.return_, 1) := by decide +kernel
theorem dX7_code_0 : decode cX7_code 0 = .ok (.iload_n 1, 1) := by decide +kernel
theorem dX7_code_1 : decode cX7_code 1 = .ok (.iconst 0, 1) := by decide +kernel
theorem dX7_code_2 : decode cX7_code 2 = .ok (.bipush 9, 2) := by decide +kernel
theorem dX7_code_4 : decode cX7_code 4 = .ok (.invokestatic 68, 3) := by decide +kernel
theorem dX7_code_7 : decode cX7_code 7 = .ok (.iload_n 2, 1) := by decide +kernel
theorem dX7_code_8 : decode cX7_code 8 = .ok (.bipush (-99), 2) := by decide +kernel
theorem dX7_code_10 : decode cX7_code 10 = .ok (.bipush 99, 2) := by decide +kernel
theorem dX7_code_12 : decode cX7_code 12 = .ok (.invokestatic 68, 3) := by decide +kernel
theorem dX7_code_15 : decode cX7_code 15 = .ok (.aload_n 0, 1) := by decide +kernel
theorem dX7_code_16 : decode cX7_code 16 = .ok (.getfield 10, 3) := by decide +kernel
theorem dX7_code_19 : decode cX7_code 19 = .ok (.getfield 72, 3) := by decide +kernel
theorem dX7_code_22 : decode cX7_code 22 = .ok (.bipush 16, 2) := by decide +kernel
theorem dX7_code_24 : decode cX7_code 24 = .ok (.if_icmp .lt 13, 3) := by decide +kernel
theorem dX7_code_27 : decode cX7_code 27 = .ok (.new 75, 3) := by decide +kernel
theorem dX7_code_30 : decode cX7_code 30 = .ok (.dup, 1) := by decide +kernel
theorem dX7_code_31 : decode cX7_code 31 = .ok (.ldc 77, 2) := by decide +kernel
theorem dX7_code_33 : decode cX7_code 33 = .ok (.invokespecial 79, 3) := by decide +kernel
theorem dX7_code_36 : decode cX7_code 36 = .ok (.athrow, 1) := by decide +kernel
theorem dX7_code_37 : decode cX7_code 37 = .ok (.aload_n 0, 1) := by decide +kernel
theorem dX7_code_38 : decode cX7_code 38 = .ok (.getfield 10, 3) := by decide +kernel
theorem dX7_code_41 : decode cX7_code 41 = .ok (.iload_n 1, 1) := by decide +kernel
theorem dX7_code_42 : decode cX7_code 42 = .ok (.iload_n 2, 1) := by decide +kernel
theorem dX7_code_43 : decode cX7_code 43 = .ok (.invokevirtual 82, 3) := by decide +kernel
theorem dX7_code_46 : decode cX7_code 46 = .ok (.aload_n 0, 1) := by decide +kernel
theorem dX7_code_47 : decode cX7_code 47 = .ok (.getfield 10, 3) := by decide +kernel
theorem dX7_code_50 : decode cX7_code 50 = .ok (.getfield 72, 3) := by decide +kernel
theorem dX7_code_53 : decode cX7_code 53 = .ok (.ireturn, 1) := by decide +kernel
theorem dX7_input_0 : decode cX7_input 0 = .ok (.iload_n 1, 1) := by decide +kernel
theorem dX7_input_1 : decode cX7_input 1 = .ok (.bipush (-9), 2) := by decide +kernel
theorem dX7_input_3 : decode cX7_input 3 = .ok (.bipush 9, 2) := by decide +kernel
theorem dX7_input_5 : decode cX7_input 5 = .ok (.invokestatic 68, 3) := by decide +kernel
theorem dX7_input_8 : decode cX7_input 8 = .ok (.aload_n 0, 1) := by decide +kernel
theorem dX7_input_9 : decode cX7_input 9 = .ok (.getfield 19, 3) := by decide +kernel
theorem dX7_input_12 : decode cX7_input 12 = .ok (.getfield 86, 3) := by decide +kernel
theorem dX7_input_15 : decode cX7_input 15 = .ok (.iconst 4, 1) := by decide +kernel
theorem dX7_input_16 : decode cX7_input 16 = .ok (.if_icmp .lt 13, 3) := by decide +kernel
theorem dX7_input_19 : decode cX7_input 19 = .ok (.new 75, 3) := by decide +kernel
theorem dX7_input_22 : decode cX7_input 22 = .ok (.dup, 1) := by decide +kernel
theorem dX7_input_23 : decode cX7_input 23 = .ok (.ldc 87, 2) := by decide +kernel
theorem dX7_input_25 : decode cX7_input 25 = .ok (.invokespecial 79, 3) := by decide +kernel
theorem dX7_input_28 : decode cX7_input 28 = .ok (.athrow, 1) := by decide +kernel
theorem dX7_input_29 : decode cX7_input 29 = .ok (.aload_n 0, 1) := by decide +kernel
theorem dX7_input_30 : decode cX7_input 30 = .ok (.getfield 19, 3) := by decide +kernel
theorem dX7_input_33 : decode cX7_input 33 = .ok (.iload_n 1, 1) := by decide +kernel
theorem dX7_input_34 : decode cX7_input 34 = .ok (.invokevirtual 89, 3) := by decide +kernel
theorem dX7_input_37 : decode cX7_input 37 = .ok (.aload_n 0, 1) := by decide +kernel
theorem dX7_input_38 : decode cX7_input 38 = .ok (.getfield 19, 3) := by decide +kernel
theorem dX7_input_41 : decode cX7_input 41 = .ok (.getfield 86, 3) := by decide +kernel
theorem dX7_input_44 : decode cX7_input 44 = .ok (.ireturn, 1) := by decide +kernel
theorem dX7_clear_0 : decode cX7_clear 0 = .ok (.aload_n 0, 1) := by decide +kernel
theorem dX7_clear_1 : decode cX7_clear 1 = .ok (.getfield 10, 3) := by decide +kernel
theorem dX7_clear_4 : decode cX7_clear 4 = .ok (.getfield 72, 3) := by decide +kernel
theorem dX7_clear_7 : decode cX7_clear 7 = .ok (.istore_n 1, 1) := by decide +kernel
theorem dX7_clear_8 : decode cX7_clear 8 = .ok (.aload_n 0, 1) := by decide +kernel
theorem dX7_clear_9 : decode cX7_clear 9 = .ok (.getfield 10, 3) := by decide +kernel
theorem dX7_clear_12 : decode cX7_clear 12 = .ok (.iconst 0, 1) := by decide +kernel
theorem dX7_clear_13 : decode cX7_clear 13 = .ok (.putfield 72, 3) := by decide +kernel
theorem dX7_clear_16 : decode cX7_clear 16 = .ok (.aload_n 0, 1) := by decide +kernel
theorem dX7_clear_17 : decode cX7_clear 17 = .ok (.getfield 19, 3) := by decide +kernel
theorem dX7_clear_20 : decode cX7_clear 20 = .ok (.iconst 0, 1) := by decide +kernel
theorem dX7_clear_21 : decode cX7_clear 21 = .ok (.putfield 86, 3) := by decide +kernel
theorem dX7_clear_24 : decode cX7_clear 24 = .ok (.iload_n 1, 1) := by decide +kernel
theorem dX7_clear_25 : decode cX7_clear 25 = .ok (.ireturn, 1) := by decide +kernel
theorem dX7_run_0 : decode cX7_run 0 = .ok (.iload_n 1, 1) := by decide +kernel
theorem dX7_run_1 : decode cX7_run 1 = .ok (.iconst 1, 1) := by decide +kernel
theorem dX7_run_2 : decode cX7_run 2 = .ok (.sipush 500, 3) := by decide +kernel
theorem dX7_run_5 : decode cX7_run 5 = .ok (.invokestatic 68, 3) := by decide +kernel
theorem dX7_run_8 : decode cX7_run 8 = .ok (.iload_n 2, 1) := by decide +kernel
theorem dX7_run_9 : decode cX7_run 9 = .ok (.iconst 0, 1) := by decide +kernel
theorem dX7_run_10 : decode cX7_run 10 = .ok (.bipush 10, 2) := by decide +kernel
theorem dX7_run_12 : decode cX7_run 12 = .ok (.invokestatic 68, 3) := by decide +kernel
theorem dX7_run_15 : decode cX7_run 15 = .ok (.aload_n 0, 1) := by decide +kernel
theorem dX7_run_16 : decode cX7_run 16 = .ok (.getfield 26, 3) := by decide +kernel
theorem dX7_run_19 : decode cX7_run 19 = .ok (.aload_n 0, 1) := by decide +kernel
theorem dX7_run_20 : decode cX7_run 20 = .ok (.getfield 10, 3) := by decide +kernel
theorem dX7_run_23 : decode cX7_run 23 = .ok (.aload_n 0, 1) := by decide +kernel
theorem dX7_run_24 : decode cX7_run 24 = .ok (.getfield 19, 3) := by decide +kernel
theorem dX7_run_27 : decode cX7_run 27 = .ok (.iload_n 1, 1) := by decide +kernel
theorem dX7_run_28 : decode cX7_run 28 = .ok (.invokevirtual 93, 3) := by decide +kernel
theorem dX7_run_31 : decode cX7_run 31 = .ok (.istore_n 3, 1) := by decide +kernel
theorem dX7_run_32 : decode cX7_run 32 = .ok (.iload_n 2, 1) := by decide +kernel
theorem dX7_run_33 : decode cX7_run 33 = .ok (.tableswitch 48 0 2 #[27, 29, 37], 27) := by decide +kernel
theorem dX7_run_60 : decode cX7_run 60 = .ok (.iload_n 3, 1) := by decide +kernel
theorem dX7_run_61 : decode cX7_run 61 = .ok (.ireturn, 1) := by decide +kernel
theorem dX7_run_62 : decode cX7_run 62 = .ok (.aload_n 0, 1) := by decide +kernel
theorem dX7_run_63 : decode cX7_run 63 = .ok (.getfield 26, 3) := by decide +kernel
theorem dX7_run_66 : decode cX7_run 66 = .ok (.getfield 97, 3) := by decide +kernel
theorem dX7_run_69 : decode cX7_run 69 = .ok (.ireturn, 1) := by decide +kernel
theorem dX7_run_70 : decode cX7_run 70 = .ok (.aload_n 0, 1) := by decide +kernel
theorem dX7_run_71 : decode cX7_run 71 = .ok (.getfield 26, 3) := by decide +kernel
theorem dX7_run_74 : decode cX7_run 74 = .ok (.getfield 100, 3) := by decide +kernel
theorem dX7_run_77 : decode cX7_run 77 = .ok (.getfield 86, 3) := by decide +kernel
theorem dX7_run_80 : decode cX7_run 80 = .ok (.ireturn, 1) := by decide +kernel
theorem dX7_run_81 : decode cX7_run 81 = .ok (.aload_n 0, 1) := by decide +kernel
theorem dX7_run_82 : decode cX7_run 82 = .ok (.getfield 26, 3) := by decide +kernel
theorem dX7_run_85 : decode cX7_run 85 = .ok (.getfield 100, 3) := by decide +kernel
theorem dX7_run_88 : decode cX7_run 88 = .ok (.iload_n 2, 1) := by decide +kernel
theorem dX7_run_89 : decode cX7_run 89 = .ok (.iconst 3, 1) := by decide +kernel
theorem dX7_run_90 : decode cX7_run 90 = .ok (.isub, 1) := by decide +kernel
theorem dX7_run_91 : decode cX7_run 91 = .ok (.invokevirtual 103, 3) := by decide +kernel
theorem dX7_run_94 : decode cX7_run 94 = .ok (.ireturn, 1) := by decide +kernel
theorem dX7_problem_0 : decode cX7_problem 0 = .ok (.iload_n 1, 1) := by decide +kernel
theorem dX7_problem_1 : decode cX7_problem 1 = .ok (.iconst 1, 1) := by decide +kernel
theorem dX7_problem_2 : decode cX7_problem 2 = .ok (.sipush 500, 3) := by decide +kernel
theorem dX7_problem_5 : decode cX7_problem 5 = .ok (.invokestatic 68, 3) := by decide +kernel
theorem dX7_problem_8 : decode cX7_problem 8 = .ok (.iload_n 2, 1) := by decide +kernel
theorem dX7_problem_9 : decode cX7_problem 9 = .ok (.iconst 0, 1) := by decide +kernel
theorem dX7_problem_10 : decode cX7_problem 10 = .ok (.iconst 1, 1) := by decide +kernel
theorem dX7_problem_11 : decode cX7_problem 11 = .ok (.invokestatic 68, 3) := by decide +kernel
theorem dX7_problem_14 : decode cX7_problem 14 = .ok (.aload_n 0, 1) := by decide +kernel
theorem dX7_problem_15 : decode cX7_problem 15 = .ok (.getfield 33, 3) := by decide +kernel
theorem dX7_problem_18 : decode cX7_problem 18 = .ok (.invokevirtual 107, 3) := by decide +kernel
theorem dX7_problem_21 : decode cX7_problem 21 = .ok (.bipush 6, 2) := by decide +kernel
theorem dX7_problem_23 : decode cX7_problem 23 = .ok (.if_icmp .lt 13, 3) := by decide +kernel
theorem dX7_problem_26 : decode cX7_problem 26 = .ok (.new 75, 3) := by decide +kernel
theorem dX7_problem_29 : decode cX7_problem 29 = .ok (.dup, 1) := by decide +kernel
theorem dX7_problem_30 : decode cX7_problem 30 = .ok (.ldc 111, 2) := by decide +kernel
theorem dX7_problem_32 : decode cX7_problem 32 = .ok (.invokespecial 79, 3) := by decide +kernel
theorem dX7_problem_35 : decode cX7_problem 35 = .ok (.athrow, 1) := by decide +kernel
theorem dX7_problem_36 : decode cX7_problem 36 = .ok (.new 113, 3) := by decide +kernel
theorem dX7_problem_39 : decode cX7_problem 39 = .ok (.dup, 1) := by decide +kernel
theorem dX7_problem_40 : decode cX7_problem 40 = .ok (.aload_n 0, 1) := by decide +kernel
theorem dX7_problem_41 : decode cX7_problem 41 = .ok (.getfield 33, 3) := by decide +kernel
theorem dX7_problem_44 : decode cX7_problem 44 = .ok (.invokevirtual 107, 3) := by decide +kernel
theorem dX7_problem_47 : decode cX7_problem 47 = .ok (.iload_n 1, 1) := by decide +kernel
theorem dX7_problem_48 : decode cX7_problem 48 = .ok (.iload_n 2, 1) := by decide +kernel
theorem dX7_problem_49 : decode cX7_problem 49 = .ok (.invokespecial 115, 3) := by decide +kernel
theorem dX7_problem_52 : decode cX7_problem 52 = .ok (.astore_n 3, 1) := by decide +kernel
theorem dX7_problem_53 : decode cX7_problem 53 = .ok (.aload_n 3, 1) := by decide +kernel
theorem dX7_problem_54 : decode cX7_problem 54 = .ok (.getfield 117, 3) := by decide +kernel
theorem dX7_problem_57 : decode cX7_problem 57 = .ok (.aload_n 0, 1) := by decide +kernel
theorem dX7_problem_58 : decode cX7_problem 58 = .ok (.getfield 10, 3) := by decide +kernel
theorem dX7_problem_61 : decode cX7_problem 61 = .ok (.invokevirtual 120, 3) := by decide +kernel
theorem dX7_problem_64 : decode cX7_problem 64 = .ok (.aload_n 0, 1) := by decide +kernel
theorem dX7_problem_65 : decode cX7_problem 65 = .ok (.getfield 33, 3) := by decide +kernel
theorem dX7_problem_68 : decode cX7_problem 68 = .ok (.aload_n 3, 1) := by decide +kernel
theorem dX7_problem_69 : decode cX7_problem 69 = .ok (.invokevirtual 124, 3) := by decide +kernel
theorem dX7_problem_72 : decode cX7_problem 72 = .ok (.pop, 1) := by decide +kernel
theorem dX7_problem_73 : decode cX7_problem 73 = .ok (.aload_n 3, 1) := by decide +kernel
theorem dX7_problem_74 : decode cX7_problem 74 = .ok (.getfield 128, 3) := by decide +kernel
theorem dX7_problem_77 : decode cX7_problem 77 = .ok (.ireturn, 1) := by decide +kernel
theorem dX7_test_0 : decode cX7_test 0 = .ok (.aload_n 0, 1) := by decide +kernel
theorem dX7_test_1 : decode cX7_test 1 = .ok (.iload_n 1, 1) := by decide +kernel
theorem dX7_test_2 : decode cX7_test 2 = .ok (.invokevirtual 131, 3) := by decide +kernel
theorem dX7_test_5 : decode cX7_test 5 = .ok (.astore_n 3, 1) := by decide +kernel
theorem dX7_test_6 : decode cX7_test 6 = .ok (.iload_n 2, 1) := by decide +kernel
theorem dX7_test_7 : decode cX7_test 7 = .ok (.iconst 4, 1) := by decide +kernel
theorem dX7_test_8 : decode cX7_test 8 = .ok (.invokestatic 135, 3) := by decide +kernel
theorem dX7_test_11 : decode cX7_test 11 = .ok (.aload_n 3, 1) := by decide +kernel
theorem dX7_test_12 : decode cX7_test 12 = .ok (.getfield 138, 3) := by decide +kernel
theorem dX7_test_15 : decode cX7_test 15 = .ok (.invokevirtual 107, 3) := by decide +kernel
theorem dX7_test_18 : decode cX7_test 18 = .ok (.bipush 12, 2) := by decide +kernel
theorem dX7_test_20 : decode cX7_test 20 = .ok (.if_icmp .lt 13, 3) := by decide +kernel
theorem dX7_test_23 : decode cX7_test 23 = .ok (.new 75, 3) := by decide +kernel
theorem dX7_test_26 : decode cX7_test 26 = .ok (.dup, 1) := by decide +kernel
theorem dX7_test_27 : decode cX7_test 27 = .ok (.ldc 141, 2) := by decide +kernel
theorem dX7_test_29 : decode cX7_test 29 = .ok (.invokespecial 79, 3) := by decide +kernel
theorem dX7_test_32 : decode cX7_test 32 = .ok (.athrow, 1) := by decide +kernel
theorem dX7_test_33 : decode cX7_test 33 = .ok (.aload_n 0, 1) := by decide +kernel
theorem dX7_test_34 : decode cX7_test 34 = .ok (.aload_n 3, 1) := by decide +kernel
theorem dX7_test_35 : decode cX7_test 35 = .ok (.getfield 117, 3) := by decide +kernel
theorem dX7_test_38 : decode cX7_test 38 = .ok (.aload_n 0, 1) := by decide +kernel
theorem dX7_test_39 : decode cX7_test 39 = .ok (.getfield 19, 3) := by decide +kernel
theorem dX7_test_42 : decode cX7_test 42 = .ok (.invokevirtual 143, 3) := by decide +kernel
theorem dX7_test_45 : decode cX7_test 45 = .ok (.ifCond .ne 13, 3) := by decide +kernel
theorem dX7_test_48 : decode cX7_test 48 = .ok (.new 75, 3) := by decide +kernel
theorem dX7_test_51 : decode cX7_test 51 = .ok (.dup, 1) := by decide +kernel
theorem dX7_test_52 : decode cX7_test 52 = .ok (.ldc 147, 2) := by decide +kernel
theorem dX7_test_54 : decode cX7_test 54 = .ok (.invokespecial 79, 3) := by decide +kernel
theorem dX7_test_57 : decode cX7_test 57 = .ok (.athrow, 1) := by decide +kernel
theorem dX7_test_58 : decode cX7_test 58 = .ok (.aload_n 3, 1) := by decide +kernel
theorem dX7_test_59 : decode cX7_test 59 = .ok (.new 149, 3) := by decide +kernel
theorem dX7_test_62 : decode cX7_test 62 = .ok (.dup, 1) := by decide +kernel
theorem dX7_test_63 : decode cX7_test 63 = .ok (.aload_n 0, 1) := by decide +kernel
theorem dX7_test_64 : decode cX7_test 64 = .ok (.getfield 19, 3) := by decide +kernel
theorem dX7_test_67 : decode cX7_test 67 = .ok (.aload_n 0, 1) := by decide +kernel
theorem dX7_test_68 : decode cX7_test 68 = .ok (.getfield 26, 3) := by decide +kernel
theorem dX7_test_71 : decode cX7_test 71 = .ok (.getfield 100, 3) := by decide +kernel
theorem dX7_test_74 : decode cX7_test 74 = .ok (.iload_n 2, 1) := by decide +kernel
theorem dX7_test_75 : decode cX7_test 75 = .ok (.invokespecial 151, 3) := by decide +kernel
theorem dX7_test_78 : decode cX7_test 78 = .ok (.invokevirtual 154, 3) := by decide +kernel
theorem dX7_test_81 : decode cX7_test 81 = .ok (.aload_n 0, 1) := by decide +kernel
theorem dX7_test_82 : decode cX7_test 82 = .ok (.getfield 19, 3) := by decide +kernel
theorem dX7_test_85 : decode cX7_test 85 = .ok (.iconst 0, 1) := by decide +kernel
theorem dX7_test_86 : decode cX7_test 86 = .ok (.putfield 86, 3) := by decide +kernel
theorem dX7_test_89 : decode cX7_test 89 = .ok (.aload_n 3, 1) := by decide +kernel
theorem dX7_test_90 : decode cX7_test 90 = .ok (.getfield 138, 3) := by decide +kernel
theorem dX7_test_93 : decode cX7_test 93 = .ok (.invokevirtual 107, 3) := by decide +kernel
theorem dX7_test_96 : decode cX7_test 96 = .ok (.iconst 1, 1) := by decide +kernel
theorem dX7_test_97 : decode cX7_test 97 = .ok (.isub, 1) := by decide +kernel
theorem dX7_test_98 : decode cX7_test 98 = .ok (.ireturn, 1) := by decide +kernel
theorem dX7_points_0 : decode cX7_points 0 = .ok (.aload_n 0, 1) := by decide +kernel
theorem dX7_points_1 : decode cX7_points 1 = .ok (.iload_n 1, 1) := by decide +kernel
theorem dX7_points_2 : decode cX7_points 2 = .ok (.invokevirtual 131, 3) := by decide +kernel
theorem dX7_points_5 : decode cX7_points 5 = .ok (.astore 4, 2) := by decide +kernel
theorem dX7_points_7 : decode cX7_points 7 = .ok (.iload_n 2, 1) := by decide +kernel
theorem dX7_points_8 : decode cX7_points 8 = .ok (.iconst 4, 1) := by decide +kernel
theorem dX7_points_9 : decode cX7_points 9 = .ok (.invokestatic 135, 3) := by decide +kernel
theorem dX7_points_12 : decode cX7_points 12 = .ok (.iload_n 3, 1) := by decide +kernel
theorem dX7_points_13 : decode cX7_points 13 = .ok (.iconst 0, 1) := by decide +kernel
theorem dX7_points_14 : decode cX7_points 14 = .ok (.bipush 100, 2) := by decide +kernel
theorem dX7_points_16 : decode cX7_points 16 = .ok (.invokestatic 68, 3) := by decide +kernel
theorem dX7_points_19 : decode cX7_points 19 = .ok (.aload 4, 2) := by decide +kernel
theorem dX7_points_21 : decode cX7_points 21 = .ok (.getfield 158, 3) := by decide +kernel
theorem dX7_points_24 : decode cX7_points 24 = .ok (.iload_n 2, 1) := by decide +kernel
theorem dX7_points_25 : decode cX7_points 25 = .ok (.iaload, 1) := by decide +kernel
theorem dX7_points_26 : decode cX7_points 26 = .ok (.istore 5, 2) := by decide +kernel
theorem dX7_points_28 : decode cX7_points 28 = .ok (.aload 4, 2) := by decide +kernel
theorem dX7_points_30 : decode cX7_points 30 = .ok (.getfield 158, 3) := by decide +kernel
theorem dX7_points_33 : decode cX7_points 33 = .ok (.iload_n 2, 1) := by decide +kernel
theorem dX7_points_34 : decode cX7_points 34 = .ok (.iload_n 3, 1) := by decide +kernel
theorem dX7_points_35 : decode cX7_points 35 = .ok (.iastore, 1) := by decide +kernel
theorem dX7_points_36 : decode cX7_points 36 = .ok (.iload 5, 2) := by decide +kernel
theorem dX7_points_38 : decode cX7_points 38 = .ok (.ireturn, 1) := by decide +kernel
theorem dX7_mend_0 : decode cX7_mend 0 = .ok (.aload_n 0, 1) := by decide +kernel
theorem dX7_mend_1 : decode cX7_mend 1 = .ok (.iload_n 1, 1) := by decide +kernel
theorem dX7_mend_2 : decode cX7_mend 2 = .ok (.invokevirtual 131, 3) := by decide +kernel
theorem dX7_mend_5 : decode cX7_mend 5 = .ok (.astore_n 3, 1) := by decide +kernel
theorem dX7_mend_6 : decode cX7_mend 6 = .ok (.iload_n 2, 1) := by decide +kernel
theorem dX7_mend_7 : decode cX7_mend 7 = .ok (.iconst 0, 1) := by decide +kernel
theorem dX7_mend_8 : decode cX7_mend 8 = .ok (.iconst 1, 1) := by decide +kernel
theorem dX7_mend_9 : decode cX7_mend 9 = .ok (.invokestatic 68, 3) := by decide +kernel
theorem dX7_mend_12 : decode cX7_mend 12 = .ok (.aload_n 0, 1) := by decide +kernel
theorem dX7_mend_13 : decode cX7_mend 13 = .ok (.getfield 10, 3) := by decide +kernel
theorem dX7_mend_16 : decode cX7_mend 16 = .ok (.getfield 72, 3) := by decide +kernel
theorem dX7_mend_19 : decode cX7_mend 19 = .ok (.ifCond .le 41, 3) := by decide +kernel
theorem dX7_mend_22 : decode cX7_mend 22 = .ok (.aload_n 0, 1) := by decide +kernel
theorem dX7_mend_23 : decode cX7_mend 23 = .ok (.aload_n 3, 1) := by decide +kernel
theorem dX7_mend_24 : decode cX7_mend 24 = .ok (.aload_n 0, 1) := by decide +kernel
theorem dX7_mend_25 : decode cX7_mend 25 = .ok (.getfield 10, 3) := by decide +kernel
theorem dX7_mend_28 : decode cX7_mend 28 = .ok (.invokevirtual 161, 3) := by decide +kernel
theorem dX7_mend_31 : decode cX7_mend 31 = .ok (.ifCond .ne 13, 3) := by decide +kernel
theorem dX7_mend_34 : decode cX7_mend 34 = .ok (.new 75, 3) := by decide +kernel
theorem dX7_mend_37 : decode cX7_mend 37 = .ok (.dup, 1) := by decide +kernel
theorem dX7_mend_38 : decode cX7_mend 38 = .ok (.ldc 165, 2) := by decide +kernel
theorem dX7_mend_40 : decode cX7_mend 40 = .ok (.invokespecial 79, 3) := by decide +kernel
theorem dX7_mend_43 : decode cX7_mend 43 = .ok (.athrow, 1) := by decide +kernel
theorem dX7_mend_44 : decode cX7_mend 44 = .ok (.aload_n 3, 1) := by decide +kernel
theorem dX7_mend_45 : decode cX7_mend 45 = .ok (.getfield 117, 3) := by decide +kernel
theorem dX7_mend_48 : decode cX7_mend 48 = .ok (.aload_n 0, 1) := by decide +kernel
theorem dX7_mend_49 : decode cX7_mend 49 = .ok (.getfield 10, 3) := by decide +kernel
theorem dX7_mend_52 : decode cX7_mend 52 = .ok (.invokevirtual 120, 3) := by decide +kernel
theorem dX7_mend_55 : decode cX7_mend 55 = .ok (.aload_n 0, 1) := by decide +kernel
theorem dX7_mend_56 : decode cX7_mend 56 = .ok (.aload_n 3, 1) := by decide +kernel
theorem dX7_mend_57 : decode cX7_mend 57 = .ok (.invokevirtual 167, 3) := by decide +kernel
theorem dX7_mend_60 : decode cX7_mend 60 = .ok (.aload_n 3, 1) := by decide +kernel
theorem dX7_mend_61 : decode cX7_mend 61 = .ok (.iload_n 2, 1) := by decide +kernel
theorem dX7_mend_62 : decode cX7_mend 62 = .ok (.putfield 171, 3) := by decide +kernel
theorem dX7_mend_65 : decode cX7_mend 65 = .ok (.aload_n 3, 1) := by decide +kernel
theorem dX7_mend_66 : decode cX7_mend 66 = .ok (.dup, 1) := by decide +kernel
theorem dX7_mend_67 : decode cX7_mend 67 = .ok (.getfield 174, 3) := by decide +kernel
theorem dX7_mend_70 : decode cX7_mend 70 = .ok (.iconst 1, 1) := by decide +kernel
theorem dX7_mend_71 : decode cX7_mend 71 = .ok (.iadd, 1) := by decide +kernel
theorem dX7_mend_72 : decode cX7_mend 72 = .ok (.putfield 174, 3) := by decide +kernel
theorem dX7_mend_75 : decode cX7_mend 75 = .ok (.aload_n 3, 1) := by decide +kernel
theorem dX7_mend_76 : decode cX7_mend 76 = .ok (.getfield 174, 3) := by decide +kernel
theorem dX7_mend_79 : decode cX7_mend 79 = .ok (.ireturn, 1) := by decide +kernel
theorem dX7_answer_0 : decode cX7_answer 0 = .ok (.aload_n 0, 1) := by decide +kernel
theorem dX7_answer_1 : decode cX7_answer 1 = .ok (.iload_n 1, 1) := by decide +kernel
theorem dX7_answer_2 : decode cX7_answer 2 = .ok (.invokevirtual 131, 3) := by decide +kernel
theorem dX7_answer_5 : decode cX7_answer 5 = .ok (.astore 4, 2) := by decide +kernel
theorem dX7_answer_7 : decode cX7_answer 7 = .ok (.iload_n 2, 1) := by decide +kernel
theorem dX7_answer_8 : decode cX7_answer 8 = .ok (.aload 4, 2) := by decide +kernel
theorem dX7_answer_10 : decode cX7_answer 10 = .ok (.getfield 138, 3) := by decide +kernel
theorem dX7_answer_13 : decode cX7_answer 13 = .ok (.invokevirtual 107, 3) := by decide +kernel
theorem dX7_answer_16 : decode cX7_answer 16 = .ok (.invokestatic 135, 3) := by decide +kernel
theorem dX7_answer_19 : decode cX7_answer 19 = .ok (.iload_n 3, 1) := by decide +kernel
theorem dX7_answer_20 : decode cX7_answer 20 = .ok (.ifCond .ge 13, 3) := by decide +kernel
theorem dX7_answer_23 : decode cX7_answer 23 = .ok (.new 177, 3) := by decide +kernel
theorem dX7_answer_26 : decode cX7_answer 26 = .ok (.dup, 1) := by decide +kernel
theorem dX7_answer_27 : decode cX7_answer 27 = .ok (.ldc 179, 2) := by decide +kernel
theorem dX7_answer_29 : decode cX7_answer 29 = .ok (.invokespecial 181, 3) := by decide +kernel
theorem dX7_answer_32 : decode cX7_answer 32 = .ok (.athrow, 1) := by decide +kernel
theorem dX7_answer_33 : decode cX7_answer 33 = .ok (.aload 4, 2) := by decide +kernel
theorem dX7_answer_35 : decode cX7_answer 35 = .ok (.getfield 138, 3) := by decide +kernel
theorem dX7_answer_38 : decode cX7_answer 38 = .ok (.iload_n 2, 1) := by decide +kernel
theorem dX7_answer_39 : decode cX7_answer 39 = .ok (.invokevirtual 182, 3) := by decide +kernel
theorem dX7_answer_42 : decode cX7_answer 42 = .ok (.checkcast 149, 3) := by decide +kernel
theorem dX7_answer_45 : decode cX7_answer 45 = .ok (.getfield 186, 3) := by decide +kernel
theorem dX7_answer_48 : decode cX7_answer 48 = .ok (.iload_n 3, 1) := by decide +kernel
theorem dX7_answer_49 : decode cX7_answer 49 = .ok (.invokevirtual 103, 3) := by decide +kernel
theorem dX7_answer_52 : decode cX7_answer 52 = .ok (.ireturn, 1) := by decide +kernel
theorem dX7_enter_0 : decode cX7_enter 0 = .ok (.iload_n 1, 1) := by decide +kernel
theorem dX7_enter_1 : decode cX7_enter 1 = .ok (.bipush 8, 2) := by decide +kernel
theorem dX7_enter_3 : decode cX7_enter 3 = .ok (.invokestatic 135, 3) := by decide +kernel
theorem dX7_enter_6 : decode cX7_enter 6 = .ok (.aload_n 0, 1) := by decide +kernel
theorem dX7_enter_7 : decode cX7_enter 7 = .ok (.iload_n 2, 1) := by decide +kernel
theorem dX7_enter_8 : decode cX7_enter 8 = .ok (.invokevirtual 131, 3) := by decide +kernel
theorem dX7_enter_11 : decode cX7_enter 11 = .ok (.astore_n 3, 1) := by decide +kernel
theorem dX7_enter_12 : decode cX7_enter 12 = .ok (.aload_n 0, 1) := by decide +kernel
theorem dX7_enter_13 : decode cX7_enter 13 = .ok (.getfield 37, 3) := by decide +kernel
theorem dX7_enter_16 : decode cX7_enter 16 = .ok (.invokevirtual 107, 3) := by decide +kernel
theorem dX7_enter_19 : decode cX7_enter 19 = .ok (.bipush 60, 2) := by decide +kernel
theorem dX7_enter_21 : decode cX7_enter 21 = .ok (.if_icmp .lt 13, 3) := by decide +kernel
theorem dX7_enter_24 : decode cX7_enter 24 = .ok (.new 75, 3) := by decide +kernel
theorem dX7_enter_27 : decode cX7_enter 27 = .ok (.dup, 1) := by decide +kernel
theorem dX7_enter_28 : decode cX7_enter 28 = .ok (.ldc 189, 2) := by decide +kernel
theorem dX7_enter_30 : decode cX7_enter 30 = .ok (.invokespecial 79, 3) := by decide +kernel
theorem dX7_enter_33 : decode cX7_enter 33 = .ok (.athrow, 1) := by decide +kernel
theorem dX7_enter_34 : decode cX7_enter 34 = .ok (.new 191, 3) := by decide +kernel
theorem dX7_enter_37 : decode cX7_enter 37 = .ok (.dup, 1) := by decide +kernel
theorem dX7_enter_38 : decode cX7_enter 38 = .ok (.iload_n 1, 1) := by decide +kernel
theorem dX7_enter_39 : decode cX7_enter 39 = .ok (.aload_n 3, 1) := by decide +kernel
theorem dX7_enter_40 : decode cX7_enter 40 = .ok (.aload_n 0, 1) := by decide +kernel
theorem dX7_enter_41 : decode cX7_enter 41 = .ok (.getfield 61, 3) := by decide +kernel
theorem dX7_enter_44 : decode cX7_enter 44 = .ok (.invokespecial 193, 3) := by decide +kernel
theorem dX7_enter_47 : decode cX7_enter 47 = .ok (.astore 4, 2) := by decide +kernel
theorem dX7_enter_49 : decode cX7_enter 49 = .ok (.aload 4, 2) := by decide +kernel
theorem dX7_enter_51 : decode cX7_enter 51 = .ok (.getfield 196, 3) := by decide +kernel
theorem dX7_enter_54 : decode cX7_enter 54 = .ok (.aload_n 0, 1) := by decide +kernel
theorem dX7_enter_55 : decode cX7_enter 55 = .ok (.getfield 10, 3) := by decide +kernel
theorem dX7_enter_58 : decode cX7_enter 58 = .ok (.invokevirtual 120, 3) := by decide +kernel
theorem dX7_enter_61 : decode cX7_enter 61 = .ok (.aload_n 0, 1) := by decide +kernel
theorem dX7_enter_62 : decode cX7_enter 62 = .ok (.getfield 37, 3) := by decide +kernel
theorem dX7_enter_65 : decode cX7_enter 65 = .ok (.aload 4, 2) := by decide +kernel
theorem dX7_enter_67 : decode cX7_enter 67 = .ok (.invokevirtual 124, 3) := by decide +kernel
theorem dX7_enter_70 : decode cX7_enter 70 = .ok (.pop, 1) := by decide +kernel
theorem dX7_enter_71 : decode cX7_enter 71 = .ok (.aload_n 0, 1) := by decide +kernel
theorem dX7_enter_72 : decode cX7_enter 72 = .ok (.getfield 37, 3) := by decide +kernel
theorem dX7_enter_75 : decode cX7_enter 75 = .ok (.invokevirtual 107, 3) := by decide +kernel
theorem dX7_enter_78 : decode cX7_enter 78 = .ok (.iconst 1, 1) := by decide +kernel
theorem dX7_enter_79 : decode cX7_enter 79 = .ok (.isub, 1) := by decide +kernel
theorem dX7_enter_80 : decode cX7_enter 80 = .ok (.ireturn, 1) := by decide +kernel
theorem dX7_pass_0 : decode cX7_pass 0 = .ok (.iload_n 1, 1) := by decide +kernel
theorem dX7_pass_1 : decode cX7_pass 1 = .ok (.iconst 1, 1) := by decide +kernel
theorem dX7_pass_2 : decode cX7_pass 2 = .ok (.sipush 300, 3) := by decide +kernel
theorem dX7_pass_5 : decode cX7_pass 5 = .ok (.invokestatic 68, 3) := by decide +kernel
theorem dX7_pass_8 : decode cX7_pass 8 = .ok (.aload_n 0, 1) := by decide +kernel
theorem dX7_pass_9 : decode cX7_pass 9 = .ok (.getfield 61, 3) := by decide +kernel
theorem dX7_pass_12 : decode cX7_pass 12 = .ok (.iload_n 1, 1) := by decide +kernel
theorem dX7_pass_13 : decode cX7_pass 13 = .ok (.iadd, 1) := by decide +kernel
theorem dX7_pass_14 : decode cX7_pass 14 = .ok (.sipush 9999, 3) := by decide +kernel
theorem dX7_pass_17 : decode cX7_pass 17 = .ok (.if_icmp .le 13, 3) := by decide +kernel
theorem dX7_pass_20 : decode cX7_pass 20 = .ok (.new 75, 3) := by decide +kernel
theorem dX7_pass_23 : decode cX7_pass 23 = .ok (.dup, 1) := by decide +kernel
theorem dX7_pass_24 : decode cX7_pass 24 = .ok (.ldc 199, 2) := by decide +kernel
theorem dX7_pass_26 : decode cX7_pass 26 = .ok (.invokespecial 79, 3) := by decide +kernel
theorem dX7_pass_29 : decode cX7_pass 29 = .ok (.athrow, 1) := by decide +kernel
theorem dX7_pass_30 : decode cX7_pass 30 = .ok (.aload_n 0, 1) := by decide +kernel
theorem dX7_pass_31 : decode cX7_pass 31 = .ok (.dup, 1) := by decide +kernel
theorem dX7_pass_32 : decode cX7_pass 32 = .ok (.getfield 61, 3) := by decide +kernel
theorem dX7_pass_35 : decode cX7_pass 35 = .ok (.iload_n 1, 1) := by decide +kernel
theorem dX7_pass_36 : decode cX7_pass 36 = .ok (.iadd, 1) := by decide +kernel
theorem dX7_pass_37 : decode cX7_pass 37 = .ok (.putfield 61, 3) := by decide +kernel
theorem dX7_pass_40 : decode cX7_pass 40 = .ok (.aload_n 0, 1) := by decide +kernel
theorem dX7_pass_41 : decode cX7_pass 41 = .ok (.getfield 61, 3) := by decide +kernel
theorem dX7_pass_44 : decode cX7_pass 44 = .ok (.ireturn, 1) := by decide +kernel
theorem dX7_judge_0 : decode cX7_judge 0 = .ok (.iconst (-1), 1) := by decide +kernel
theorem dX7_judge_1 : decode cX7_judge 1 = .ok (.istore_n 1, 1) := by decide +kernel
theorem dX7_judge_2 : decode cX7_judge 2 = .ok (.iconst 0, 1) := by decide +kernel
theorem dX7_judge_3 : decode cX7_judge 3 = .ok (.istore_n 2, 1) := by decide +kernel
theorem dX7_judge_4 : decode cX7_judge 4 = .ok (.iconst 0, 1) := by decide +kernel
theorem dX7_judge_5 : decode cX7_judge 5 = .ok (.istore_n 3, 1) := by decide +kernel
theorem dX7_judge_6 : decode cX7_judge 6 = .ok (.iload_n 3, 1) := by decide +kernel
theorem dX7_judge_7 : decode cX7_judge 7 = .ok (.aload_n 0, 1) := by decide +kernel
theorem dX7_judge_8 : decode cX7_judge 8 = .ok (.getfield 37, 3) := by decide +kernel
theorem dX7_judge_11 : decode cX7_judge 11 = .ok (.invokevirtual 107, 3) := by decide +kernel
theorem dX7_judge_14 : decode cX7_judge 14 = .ok (.if_icmp .ge 62, 3) := by decide +kernel
theorem dX7_judge_17 : decode cX7_judge 17 = .ok (.aload_n 0, 1) := by decide +kernel
theorem dX7_judge_18 : decode cX7_judge 18 = .ok (.getfield 37, 3) := by decide +kernel
theorem dX7_judge_21 : decode cX7_judge 21 = .ok (.iload_n 3, 1) := by decide +kernel
theorem dX7_judge_22 : decode cX7_judge 22 = .ok (.invokevirtual 182, 3) := by decide +kernel
theorem dX7_judge_25 : decode cX7_judge 25 = .ok (.checkcast 191, 3) := by decide +kernel
theorem dX7_judge_28 : decode cX7_judge 28 = .ok (.astore 4, 2) := by decide +kernel
theorem dX7_judge_30 : decode cX7_judge 30 = .ok (.aload 4, 2) := by decide +kernel
theorem dX7_judge_32 : decode cX7_judge 32 = .ok (.invokevirtual 201, 3) := by decide +kernel
theorem dX7_judge_35 : decode cX7_judge 35 = .ok (.ifCond .eq 35, 3) := by decide +kernel
theorem dX7_judge_38 : decode cX7_judge 38 = .ok (.iload_n 1, 1) := by decide +kernel
theorem dX7_judge_39 : decode cX7_judge 39 = .ok (.iconst (-1), 1) := by decide +kernel
theorem dX7_judge_40 : decode cX7_judge 40 = .ok (.if_icmp .eq 17, 3) := by decide +kernel
theorem dX7_judge_43 : decode cX7_judge 43 = .ok (.aload_n 0, 1) := by decide +kernel
theorem dX7_judge_44 : decode cX7_judge 44 = .ok (.getfield 47, 3) := by decide +kernel
theorem dX7_judge_47 : decode cX7_judge 47 = .ok (.aload 4, 2) := by decide +kernel
theorem dX7_judge_49 : decode cX7_judge 49 = .ok (.getfield 205, 3) := by decide +kernel
theorem dX7_judge_52 : decode cX7_judge 52 = .ok (.iaload, 1) := by decide +kernel
theorem dX7_judge_53 : decode cX7_judge 53 = .ok (.iload_n 2, 1) := by decide +kernel
theorem dX7_judge_54 : decode cX7_judge 54 = .ok (.if_icmp .ge 16, 3) := by decide +kernel
theorem dX7_judge_57 : decode cX7_judge 57 = .ok (.iload_n 3, 1) := by decide +kernel
theorem dX7_judge_58 : decode cX7_judge 58 = .ok (.istore_n 1, 1) := by decide +kernel
theorem dX7_judge_59 : decode cX7_judge 59 = .ok (.aload_n 0, 1) := by decide +kernel
theorem dX7_judge_60 : decode cX7_judge 60 = .ok (.getfield 47, 3) := by decide +kernel
theorem dX7_judge_63 : decode cX7_judge 63 = .ok (.aload 4, 2) := by decide +kernel
theorem dX7_judge_65 : decode cX7_judge 65 = .ok (.getfield 205, 3) := by decide +kernel
theorem dX7_judge_68 : decode cX7_judge 68 = .ok (.iaload, 1) := by decide +kernel
theorem dX7_judge_69 : decode cX7_judge 69 = .ok (.istore_n 2, 1) := by decide +kernel
theorem dX7_judge_70 : decode cX7_judge 70 = .ok (.iinc 3 1, 3) := by decide +kernel
theorem dX7_judge_73 : decode cX7_judge 73 = .ok (.goto (-67), 3) := by decide +kernel
theorem dX7_judge_76 : decode cX7_judge 76 = .ok (.iload_n 1, 1) := by decide +kernel
theorem dX7_judge_77 : decode cX7_judge 77 = .ok (.iconst (-1), 1) := by decide +kernel
theorem dX7_judge_78 : decode cX7_judge 78 = .ok (.if_icmp .eq 18, 3) := by decide +kernel
theorem dX7_judge_81 : decode cX7_judge 81 = .ok (.aload_n 0, 1) := by decide +kernel
theorem dX7_judge_82 : decode cX7_judge 82 = .ok (.aload_n 0, 1) := by decide +kernel
theorem dX7_judge_83 : decode cX7_judge 83 = .ok (.getfield 37, 3) := by decide +kernel
theorem dX7_judge_86 : decode cX7_judge 86 = .ok (.iload_n 1, 1) := by decide +kernel
theorem dX7_judge_87 : decode cX7_judge 87 = .ok (.invokevirtual 182, 3) := by decide +kernel
theorem dX7_judge_90 : decode cX7_judge 90 = .ok (.checkcast 191, 3) := by decide +kernel
theorem dX7_judge_93 : decode cX7_judge 93 = .ok (.invokevirtual 208, 3) := by decide +kernel
theorem dX7_judge_96 : decode cX7_judge 96 = .ok (.iload_n 1, 1) := by decide +kernel
theorem dX7_judge_97 : decode cX7_judge 97 = .ok (.ireturn, 1) := by decide +kernel
theorem dX7_rejudge_0 : decode cX7_rejudge 0 = .ok (.aload_n 0, 1) := by decide +kernel
theorem dX7_rejudge_1 : decode cX7_rejudge 1 = .ok (.iload_n 1, 1) := by decide +kernel
theorem dX7_rejudge_2 : decode cX7_rejudge 2 = .ok (.invokevirtual 131, 3) := by decide +kernel
theorem dX7_rejudge_5 : decode cX7_rejudge 5 = .ok (.astore_n 2, 1) := by decide +kernel
theorem dX7_rejudge_6 : decode cX7_rejudge 6 = .ok (.iconst 0, 1) := by decide +kernel
theorem dX7_rejudge_7 : decode cX7_rejudge 7 = .ok (.istore_n 3, 1) := by decide +kernel
theorem dX7_rejudge_8 : decode cX7_rejudge 8 = .ok (.iconst 0, 1) := by decide +kernel
theorem dX7_rejudge_9 : decode cX7_rejudge 9 = .ok (.istore 4, 2) := by decide +kernel
theorem dX7_rejudge_11 : decode cX7_rejudge 11 = .ok (.iload 4, 2) := by decide +kernel
theorem dX7_rejudge_13 : decode cX7_rejudge 13 = .ok (.aload_n 0, 1) := by decide +kernel
theorem dX7_rejudge_14 : decode cX7_rejudge 14 = .ok (.getfield 37, 3) := by decide +kernel
theorem dX7_rejudge_17 : decode cX7_rejudge 17 = .ok (.invokevirtual 107, 3) := by decide +kernel
theorem dX7_rejudge_20 : decode cX7_rejudge 20 = .ok (.if_icmp .ge 66, 3) := by decide +kernel
theorem dX7_rejudge_23 : decode cX7_rejudge 23 = .ok (.aload_n 0, 1) := by decide +kernel
theorem dX7_rejudge_24 : decode cX7_rejudge 24 = .ok (.getfield 37, 3) := by decide +kernel
theorem dX7_rejudge_27 : decode cX7_rejudge 27 = .ok (.iload 4, 2) := by decide +kernel
theorem dX7_rejudge_29 : decode cX7_rejudge 29 = .ok (.invokevirtual 182, 3) := by decide +kernel
theorem dX7_rejudge_32 : decode cX7_rejudge 32 = .ok (.checkcast 191, 3) := by decide +kernel
theorem dX7_rejudge_35 : decode cX7_rejudge 35 = .ok (.astore 5, 2) := by decide +kernel
theorem dX7_rejudge_37 : decode cX7_rejudge 37 = .ok (.aload 5, 2) := by decide +kernel
theorem dX7_rejudge_39 : decode cX7_rejudge 39 = .ok (.getfield 212, 3) := by decide +kernel
theorem dX7_rejudge_42 : decode cX7_rejudge 42 = .ok (.getfield 128, 3) := by decide +kernel
theorem dX7_rejudge_45 : decode cX7_rejudge 45 = .ok (.aload_n 2, 1) := by decide +kernel
theorem dX7_rejudge_46 : decode cX7_rejudge 46 = .ok (.getfield 128, 3) := by decide +kernel
theorem dX7_rejudge_49 : decode cX7_rejudge 49 = .ok (.if_icmp .ne 31, 3) := by decide +kernel
theorem dX7_rejudge_52 : decode cX7_rejudge 52 = .ok (.aload 5, 2) := by decide +kernel
theorem dX7_rejudge_54 : decode cX7_rejudge 54 = .ok (.invokevirtual 201, 3) := by decide +kernel
theorem dX7_rejudge_57 : decode cX7_rejudge 57 = .ok (.ifCond .ne 23, 3) := by decide +kernel
theorem dX7_rejudge_60 : decode cX7_rejudge 60 = .ok (.aload 5, 2) := by decide +kernel
theorem dX7_rejudge_62 : decode cX7_rejudge 62 = .ok (.getfield 216, 3) := by decide +kernel
theorem dX7_rejudge_65 : decode cX7_rejudge 65 = .ok (.aload_n 2, 1) := by decide +kernel
theorem dX7_rejudge_66 : decode cX7_rejudge 66 = .ok (.getfield 174, 3) := by decide +kernel
theorem dX7_rejudge_69 : decode cX7_rejudge 69 = .ok (.if_icmp .eq 11, 3) := by decide +kernel
theorem dX7_rejudge_72 : decode cX7_rejudge 72 = .ok (.aload 5, 2) := by decide +kernel
theorem dX7_rejudge_74 : decode cX7_rejudge 74 = .ok (.invokevirtual 217, 3) := by decide +kernel
theorem dX7_rejudge_77 : decode cX7_rejudge 77 = .ok (.iinc 3 1, 3) := by decide +kernel
theorem dX7_rejudge_80 : decode cX7_rejudge 80 = .ok (.iinc 4 1, 3) := by decide +kernel
theorem dX7_rejudge_83 : decode cX7_rejudge 83 = .ok (.goto (-72), 3) := by decide +kernel
theorem dX7_rejudge_86 : decode cX7_rejudge 86 = .ok (.iload_n 3, 1) := by decide +kernel
theorem dX7_rejudge_87 : decode cX7_rejudge 87 = .ok (.ireturn, 1) := by decide +kernel
theorem dX7_entry_0 : decode cX7_entry 0 = .ok (.aload_n 0, 1) := by decide +kernel
theorem dX7_entry_1 : decode cX7_entry 1 = .ok (.iload_n 1, 1) := by decide +kernel
theorem dX7_entry_2 : decode cX7_entry 2 = .ok (.invokevirtual 220, 3) := by decide +kernel
theorem dX7_entry_5 : decode cX7_entry 5 = .ok (.astore_n 3, 1) := by decide +kernel
theorem dX7_entry_6 : decode cX7_entry 6 = .ok (.iload_n 2, 1) := by decide +kernel
theorem dX7_entry_7 : decode cX7_entry 7 = .ok (.iconst 0, 1) := by decide +kernel
theorem dX7_entry_8 : decode cX7_entry 8 = .ok (.bipush 6, 2) := by decide +kernel
theorem dX7_entry_10 : decode cX7_entry 10 = .ok (.invokestatic 68, 3) := by decide +kernel
theorem dX7_entry_13 : decode cX7_entry 13 = .ok (.iload_n 2, 1) := by decide +kernel
theorem dX7_entry_14 : decode cX7_entry 14 = .ok (.tableswitch 71 0 5 #[38, 43, 48, 53, 58, 63], 38) := by decide +kernel
theorem dX7_entry_52 : decode cX7_entry 52 = .ok (.aload_n 3, 1) := by decide +kernel
theorem dX7_entry_53 : decode cX7_entry 53 = .ok (.getfield 224, 3) := by decide +kernel
theorem dX7_entry_56 : decode cX7_entry 56 = .ok (.ireturn, 1) := by decide +kernel
theorem dX7_entry_57 : decode cX7_entry 57 = .ok (.aload_n 3, 1) := by decide +kernel
theorem dX7_entry_58 : decode cX7_entry 58 = .ok (.getfield 227, 3) := by decide +kernel
theorem dX7_entry_61 : decode cX7_entry 61 = .ok (.ireturn, 1) := by decide +kernel
theorem dX7_entry_62 : decode cX7_entry 62 = .ok (.aload_n 3, 1) := by decide +kernel
theorem dX7_entry_63 : decode cX7_entry 63 = .ok (.getfield 230, 3) := by decide +kernel
theorem dX7_entry_66 : decode cX7_entry 66 = .ok (.ireturn, 1) := by decide +kernel
theorem dX7_entry_67 : decode cX7_entry 67 = .ok (.aload_n 3, 1) := by decide +kernel
theorem dX7_entry_68 : decode cX7_entry 68 = .ok (.getfield 216, 3) := by decide +kernel
theorem dX7_entry_71 : decode cX7_entry 71 = .ok (.ireturn, 1) := by decide +kernel
theorem dX7_entry_72 : decode cX7_entry 72 = .ok (.aload_n 3, 1) := by decide +kernel
theorem dX7_entry_73 : decode cX7_entry 73 = .ok (.getfield 205, 3) := by decide +kernel
theorem dX7_entry_76 : decode cX7_entry 76 = .ok (.ireturn, 1) := by decide +kernel
theorem dX7_entry_77 : decode cX7_entry 77 = .ok (.aload_n 3, 1) := by decide +kernel
theorem dX7_entry_78 : decode cX7_entry 78 = .ok (.getfield 212, 3) := by decide +kernel
theorem dX7_entry_81 : decode cX7_entry 81 = .ok (.getfield 128, 3) := by decide +kernel
theorem dX7_entry_84 : decode cX7_entry 84 = .ok (.ireturn, 1) := by decide +kernel
theorem dX7_entry_85 : decode cX7_entry 85 = .ok (.aload_n 3, 1) := by decide +kernel
theorem dX7_entry_86 : decode cX7_entry 86 = .ok (.getfield 233, 3) := by decide +kernel
theorem dX7_entry_89 : decode cX7_entry 89 = .ok (.ireturn, 1) := by decide +kernel
theorem dX7_likeness_0 : decode cX7_likeness 0 = .ok (.aload_n 0, 1) := by decide +kernel
theorem dX7_likeness_1 : decode cX7_likeness 1 = .ok (.iload_n 1, 1) := by decide +kernel
theorem dX7_likeness_2 : decode cX7_likeness 2 = .ok (.invokevirtual 220, 3) := by decide +kernel
theorem dX7_likeness_5 : decode cX7_likeness 5 = .ok (.getfield 196, 3) := by decide +kernel
theorem dX7_likeness_8 : decode cX7_likeness 8 = .ok (.astore_n 3, 1) := by decide +kernel
theorem dX7_likeness_9 : decode cX7_likeness 9 = .ok (.aload_n 0, 1) := by decide +kernel
theorem dX7_likeness_10 : decode cX7_likeness 10 = .ok (.iload_n 2, 1) := by decide +kernel
theorem dX7_likeness_11 : decode cX7_likeness 11 = .ok (.invokevirtual 220, 3) := by decide +kernel
theorem dX7_likeness_14 : decode cX7_likeness 14 = .ok (.getfield 196, 3) := by decide +kernel
theorem dX7_likeness_17 : decode cX7_likeness 17 = .ok (.astore 4, 2) := by decide +kernel
theorem dX7_likeness_19 : decode cX7_likeness 19 = .ok (.aload_n 3, 1) := by decide +kernel
theorem dX7_likeness_20 : decode cX7_likeness 20 = .ok (.getfield 72, 3) := by decide +kernel
theorem dX7_likeness_23 : decode cX7_likeness 23 = .ok (.aload 4, 2) := by decide +kernel
theorem dX7_likeness_25 : decode cX7_likeness 25 = .ok (.getfield 72, 3) := by decide +kernel
theorem dX7_likeness_28 : decode cX7_likeness 28 = .ok (.invokestatic 234, 3) := by decide +kernel
theorem dX7_likeness_31 : decode cX7_likeness 31 = .ok (.istore 5, 2) := by decide +kernel
theorem dX7_likeness_33 : decode cX7_likeness 33 = .ok (.iload 5, 2) := by decide +kernel
theorem dX7_likeness_35 : decode cX7_likeness 35 = .ok (.ifCond .gt 6, 3) := by decide +kernel
theorem dX7_likeness_38 : decode cX7_likeness 38 = .ok (.bipush 100, 2) := by decide +kernel
theorem dX7_likeness_40 : decode cX7_likeness 40 = .ok (.ireturn, 1) := by decide +kernel
theorem dX7_likeness_41 : decode cX7_likeness 41 = .ok (.bipush 100, 2) := by decide +kernel
theorem dX7_likeness_43 : decode cX7_likeness 43 = .ok (.aload_n 0, 1) := by decide +kernel
theorem dX7_likeness_44 : decode cX7_likeness 44 = .ok (.aload_n 3, 1) := by decide +kernel
theorem dX7_likeness_45 : decode cX7_likeness 45 = .ok (.aload 4, 2) := by decide +kernel
theorem dX7_likeness_47 : decode cX7_likeness 47 = .ok (.invokevirtual 240, 3) := by decide +kernel
theorem dX7_likeness_50 : decode cX7_likeness 50 = .ok (.imul, 1) := by decide +kernel
theorem dX7_likeness_51 : decode cX7_likeness 51 = .ok (.iload 5, 2) := by decide +kernel
theorem dX7_likeness_53 : decode cX7_likeness 53 = .ok (.idiv, 1) := by decide +kernel
theorem dX7_likeness_54 : decode cX7_likeness 54 = .ok (.ireturn, 1) := by decide +kernel
theorem dX7_freeze_0 : decode cX7_freeze 0 = .ok (.iload_n 1, 1) := by decide +kernel
theorem dX7_freeze_1 : decode cX7_freeze 1 = .ok (.iconst (-1), 1) := by decide +kernel
theorem dX7_freeze_2 : decode cX7_freeze 2 = .ok (.sipush 9999, 3) := by decide +kernel
theorem dX7_freeze_5 : decode cX7_freeze 5 = .ok (.invokestatic 68, 3) := by decide +kernel
theorem dX7_freeze_8 : decode cX7_freeze 8 = .ok (.aload_n 0, 1) := by decide +kernel
theorem dX7_freeze_9 : decode cX7_freeze 9 = .ok (.iload_n 1, 1) := by decide +kernel
theorem dX7_freeze_10 : decode cX7_freeze 10 = .ok (.putfield 65, 3) := by decide +kernel
theorem dX7_freeze_13 : decode cX7_freeze 13 = .ok (.iconst 0, 1) := by decide +kernel
theorem dX7_freeze_14 : decode cX7_freeze 14 = .ok (.istore_n 2, 1) := by decide +kernel
theorem dX7_freeze_15 : decode cX7_freeze 15 = .ok (.iload_n 2, 1) := by decide +kernel
theorem dX7_freeze_16 : decode cX7_freeze 16 = .ok (.aload_n 0, 1) := by decide +kernel
theorem dX7_freeze_17 : decode cX7_freeze 17 = .ok (.getfield 54, 3) := by decide +kernel
theorem dX7_freeze_20 : decode cX7_freeze 20 = .ok (.arraylength, 1) := by decide +kernel
theorem dX7_freeze_21 : decode cX7_freeze 21 = .ok (.if_icmp .ge 16, 3) := by decide +kernel
theorem dX7_freeze_24 : decode cX7_freeze 24 = .ok (.aload_n 0, 1) := by decide +kernel
theorem dX7_freeze_25 : decode cX7_freeze 25 = .ok (.getfield 54, 3) := by decide +kernel
theorem dX7_freeze_28 : decode cX7_freeze 28 = .ok (.iload_n 2, 1) := by decide +kernel
theorem dX7_freeze_29 : decode cX7_freeze 29 = .ok (.iconst 0, 1) := by decide +kernel
theorem dX7_freeze_30 : decode cX7_freeze 30 = .ok (.bastore, 1) := by decide +kernel
theorem dX7_freeze_31 : decode cX7_freeze 31 = .ok (.iinc 2 1, 3) := by decide +kernel
theorem dX7_freeze_34 : decode cX7_freeze 34 = .ok (.goto (-19), 3) := by decide +kernel
theorem dX7_freeze_37 : decode cX7_freeze 37 = .ok (.return_, 1) := by decide +kernel
theorem dX7_reveal_0 : decode cX7_reveal 0 = .ok (.aload_n 0, 1) := by decide +kernel
theorem dX7_reveal_1 : decode cX7_reveal 1 = .ok (.getfield 65, 3) := by decide +kernel
theorem dX7_reveal_4 : decode cX7_reveal 4 = .ok (.iconst (-1), 1) := by decide +kernel
theorem dX7_reveal_5 : decode cX7_reveal 5 = .ok (.if_icmp .ne 5, 3) := by decide +kernel
theorem dX7_reveal_8 : decode cX7_reveal 8 = .ok (.iconst (-1), 1) := by decide +kernel
theorem dX7_reveal_9 : decode cX7_reveal 9 = .ok (.ireturn, 1) := by decide +kernel
theorem dX7_reveal_10 : decode cX7_reveal 10 = .ok (.aload_n 0, 1) := by decide +kernel
theorem dX7_reveal_11 : decode cX7_reveal 11 = .ok (.iconst 1, 1) := by decide +kernel
theorem dX7_reveal_12 : decode cX7_reveal 12 = .ok (.invokevirtual 244, 3) := by decide +kernel
theorem dX7_reveal_15 : decode cX7_reveal 15 = .ok (.iconst (-1), 1) := by decide +kernel
theorem dX7_reveal_16 : decode cX7_reveal 16 = .ok (.istore_n 1, 1) := by decide +kernel
theorem dX7_reveal_17 : decode cX7_reveal 17 = .ok (.iconst 0, 1) := by decide +kernel
theorem dX7_reveal_18 : decode cX7_reveal 18 = .ok (.istore_n 2, 1) := by decide +kernel
theorem dX7_reveal_19 : decode cX7_reveal 19 = .ok (.iload_n 2, 1) := by decide +kernel
theorem dX7_reveal_20 : decode cX7_reveal 20 = .ok (.bipush 8, 2) := by decide +kernel
theorem dX7_reveal_22 : decode cX7_reveal 22 = .ok (.if_icmp .ge 37, 3) := by decide +kernel
theorem dX7_reveal_25 : decode cX7_reveal 25 = .ok (.aload_n 0, 1) := by decide +kernel
theorem dX7_reveal_26 : decode cX7_reveal 26 = .ok (.iload_n 2, 1) := by decide +kernel
theorem dX7_reveal_27 : decode cX7_reveal 27 = .ok (.invokevirtual 248, 3) := by decide +kernel
theorem dX7_reveal_30 : decode cX7_reveal 30 = .ok (.iconst (-1), 1) := by decide +kernel
theorem dX7_reveal_31 : decode cX7_reveal 31 = .ok (.if_icmp .eq 22, 3) := by decide +kernel
theorem dX7_reveal_34 : decode cX7_reveal 34 = .ok (.iload_n 1, 1) := by decide +kernel
theorem dX7_reveal_35 : decode cX7_reveal 35 = .ok (.iconst (-1), 1) := by decide +kernel
theorem dX7_reveal_36 : decode cX7_reveal 36 = .ok (.if_icmp .eq 15, 3) := by decide +kernel
theorem dX7_reveal_39 : decode cX7_reveal 39 = .ok (.aload_n 0, 1) := by decide +kernel
theorem dX7_reveal_40 : decode cX7_reveal 40 = .ok (.getfield 43, 3) := by decide +kernel
theorem dX7_reveal_43 : decode cX7_reveal 43 = .ok (.iload_n 1, 1) := by decide +kernel
theorem dX7_reveal_44 : decode cX7_reveal 44 = .ok (.iload_n 2, 1) := by decide +kernel
theorem dX7_reveal_45 : decode cX7_reveal 45 = .ok (.invokevirtual 251, 3) := by decide +kernel
theorem dX7_reveal_48 : decode cX7_reveal 48 = .ok (.ifCond .eq 5, 3) := by decide +kernel
theorem dX7_reveal_51 : decode cX7_reveal 51 = .ok (.iload_n 2, 1) := by decide +kernel
theorem dX7_reveal_52 : decode cX7_reveal 52 = .ok (.istore_n 1, 1) := by decide +kernel
theorem dX7_reveal_53 : decode cX7_reveal 53 = .ok (.iinc 2 1, 3) := by decide +kernel
theorem dX7_reveal_56 : decode cX7_reveal 56 = .ok (.goto (-37), 3) := by decide +kernel
theorem dX7_reveal_59 : decode cX7_reveal 59 = .ok (.iload_n 1, 1) := by decide +kernel
theorem dX7_reveal_60 : decode cX7_reveal 60 = .ok (.iconst (-1), 1) := by decide +kernel
theorem dX7_reveal_61 : decode cX7_reveal 61 = .ok (.if_icmp .ne 5, 3) := by decide +kernel
theorem dX7_reveal_64 : decode cX7_reveal 64 = .ok (.iconst (-1), 1) := by decide +kernel
theorem dX7_reveal_65 : decode cX7_reveal 65 = .ok (.ireturn, 1) := by decide +kernel
theorem dX7_reveal_66 : decode cX7_reveal 66 = .ok (.aload_n 0, 1) := by decide +kernel
theorem dX7_reveal_67 : decode cX7_reveal 67 = .ok (.iload_n 1, 1) := by decide +kernel
theorem dX7_reveal_68 : decode cX7_reveal 68 = .ok (.invokevirtual 248, 3) := by decide +kernel
theorem dX7_reveal_71 : decode cX7_reveal 71 = .ok (.istore_n 2, 1) := by decide +kernel
theorem dX7_reveal_72 : decode cX7_reveal 72 = .ok (.aload_n 0, 1) := by decide +kernel
theorem dX7_reveal_73 : decode cX7_reveal 73 = .ok (.getfield 54, 3) := by decide +kernel
theorem dX7_reveal_76 : decode cX7_reveal 76 = .ok (.iload_n 1, 1) := by decide +kernel
theorem dX7_reveal_77 : decode cX7_reveal 77 = .ok (.iload_n 2, 1) := by decide +kernel
theorem dX7_reveal_78 : decode cX7_reveal 78 = .ok (.invokestatic 255, 3) := by decide +kernel
theorem dX7_reveal_81 : decode cX7_reveal 81 = .ok (.iconst 1, 1) := by decide +kernel
theorem dX7_reveal_82 : decode cX7_reveal 82 = .ok (.bastore, 1) := by decide +kernel
theorem dX7_reveal_83 : decode cX7_reveal 83 = .ok (.bipush 10, 2) := by decide +kernel
theorem dX7_reveal_85 : decode cX7_reveal 85 = .ok (.iload_n 1, 1) := by decide +kernel
theorem dX7_reveal_86 : decode cX7_reveal 86 = .ok (.imul, 1) := by decide +kernel
theorem dX7_reveal_87 : decode cX7_reveal 87 = .ok (.iload_n 2, 1) := by decide +kernel
theorem dX7_reveal_88 : decode cX7_reveal 88 = .ok (.iadd, 1) := by decide +kernel
theorem dX7_reveal_89 : decode cX7_reveal 89 = .ok (.ireturn, 1) := by decide +kernel
theorem dX7_board_0 : decode cX7_board 0 = .ok (.iload_n 1, 1) := by decide +kernel
theorem dX7_board_1 : decode cX7_board 1 = .ok (.bipush 8, 2) := by decide +kernel
theorem dX7_board_3 : decode cX7_board 3 = .ok (.invokestatic 135, 3) := by decide +kernel
theorem dX7_board_6 : decode cX7_board 6 = .ok (.iload_n 3, 1) := by decide +kernel
theorem dX7_board_7 : decode cX7_board 7 = .ok (.iconst 0, 1) := by decide +kernel
theorem dX7_board_8 : decode cX7_board 8 = .ok (.iconst 4, 1) := by decide +kernel
theorem dX7_board_9 : decode cX7_board 9 = .ok (.invokestatic 68, 3) := by decide +kernel
theorem dX7_board_12 : decode cX7_board 12 = .ok (.iload_n 3, 1) := by decide +kernel
theorem dX7_board_13 : decode cX7_board 13 = .ok (.iconst 4, 1) := by decide +kernel
theorem dX7_board_14 : decode cX7_board 14 = .ok (.if_icmp .ne 10, 3) := by decide +kernel
theorem dX7_board_17 : decode cX7_board 17 = .ok (.aload_n 0, 1) := by decide +kernel
theorem dX7_board_18 : decode cX7_board 18 = .ok (.getfield 51, 3) := by decide +kernel
theorem dX7_board_21 : decode cX7_board 21 = .ok (.iload_n 1, 1) := by decide +kernel
theorem dX7_board_22 : decode cX7_board 22 = .ok (.iaload, 1) := by decide +kernel
theorem dX7_board_23 : decode cX7_board 23 = .ok (.ireturn, 1) := by decide +kernel
theorem dX7_board_24 : decode cX7_board 24 = .ok (.aload_n 0, 1) := by decide +kernel
theorem dX7_board_25 : decode cX7_board 25 = .ok (.iload_n 2, 1) := by decide +kernel
theorem dX7_board_26 : decode cX7_board 26 = .ok (.invokevirtual 244, 3) := by decide +kernel
theorem dX7_board_29 : decode cX7_board 29 = .ok (.iload_n 3, 1) := by decide +kernel
theorem dX7_board_30 : decode cX7_board 30 = .ok (.tableswitch 55 0 2 #[26, 35, 45], 26) := by decide +kernel
theorem dX7_board_56 : decode cX7_board 56 = .ok (.aload_n 0, 1) := by decide +kernel
theorem dX7_board_57 : decode cX7_board 57 = .ok (.getfield 43, 3) := by decide +kernel
theorem dX7_board_60 : decode cX7_board 60 = .ok (.iload_n 1, 1) := by decide +kernel
theorem dX7_board_61 : decode cX7_board 61 = .ok (.invokevirtual 258, 3) := by decide +kernel
theorem dX7_board_64 : decode cX7_board 64 = .ok (.ireturn, 1) := by decide +kernel
theorem dX7_board_65 : decode cX7_board 65 = .ok (.aload_n 0, 1) := by decide +kernel
theorem dX7_board_66 : decode cX7_board 66 = .ok (.getfield 43, 3) := by decide +kernel
theorem dX7_board_69 : decode cX7_board 69 = .ok (.getfield 261, 3) := by decide +kernel
theorem dX7_board_72 : decode cX7_board 72 = .ok (.iload_n 1, 1) := by decide +kernel
theorem dX7_board_73 : decode cX7_board 73 = .ok (.iaload, 1) := by decide +kernel
theorem dX7_board_74 : decode cX7_board 74 = .ok (.ireturn, 1) := by decide +kernel
theorem dX7_board_75 : decode cX7_board 75 = .ok (.aload_n 0, 1) := by decide +kernel
theorem dX7_board_76 : decode cX7_board 76 = .ok (.getfield 43, 3) := by decide +kernel
theorem dX7_board_79 : decode cX7_board 79 = .ok (.getfield 264, 3) := by decide +kernel
theorem dX7_board_82 : decode cX7_board 82 = .ok (.iload_n 1, 1) := by decide +kernel
theorem dX7_board_83 : decode cX7_board 83 = .ok (.iaload, 1) := by decide +kernel
theorem dX7_board_84 : decode cX7_board 84 = .ok (.ireturn, 1) := by decide +kernel
theorem dX7_board_85 : decode cX7_board 85 = .ok (.aload_n 0, 1) := by decide +kernel
theorem dX7_board_86 : decode cX7_board 86 = .ok (.getfield 43, 3) := by decide +kernel
theorem dX7_board_89 : decode cX7_board 89 = .ok (.getfield 267, 3) := by decide +kernel
theorem dX7_board_92 : decode cX7_board 92 = .ok (.iload_n 1, 1) := by decide +kernel
theorem dX7_board_93 : decode cX7_board 93 = .ok (.iaload, 1) := by decide +kernel
theorem dX7_board_94 : decode cX7_board 94 = .ok (.ireturn, 1) := by decide +kernel
theorem dX7_placeAnew_0 : decode cX7_placeAnew 0 = .ok (.iload_n 1, 1) := by decide +kernel
theorem dX7_placeAnew_1 : decode cX7_placeAnew 1 = .ok (.bipush 8, 2) := by decide +kernel
theorem dX7_placeAnew_3 : decode cX7_placeAnew 3 = .ok (.invokestatic 135, 3) := by decide +kernel
theorem dX7_placeAnew_6 : decode cX7_placeAnew 6 = .ok (.aload_n 0, 1) := by decide +kernel
theorem dX7_placeAnew_7 : decode cX7_placeAnew 7 = .ok (.getfield 43, 3) := by decide +kernel
theorem dX7_placeAnew_10 : decode cX7_placeAnew 10 = .ok (.invokevirtual 270, 3) := by decide +kernel
theorem dX7_placeAnew_13 : decode cX7_placeAnew 13 = .ok (.iconst 0, 1) := by decide +kernel
theorem dX7_placeAnew_14 : decode cX7_placeAnew 14 = .ok (.istore_n 2, 1) := by decide +kernel
theorem dX7_placeAnew_15 : decode cX7_placeAnew 15 = .ok (.iload_n 2, 1) := by decide +kernel
theorem dX7_placeAnew_16 : decode cX7_placeAnew 16 = .ok (.aload_n 0, 1) := by decide +kernel
theorem dX7_placeAnew_17 : decode cX7_placeAnew 17 = .ok (.getfield 37, 3) := by decide +kernel
theorem dX7_placeAnew_20 : decode cX7_placeAnew 20 = .ok (.invokevirtual 107, 3) := by decide +kernel
theorem dX7_placeAnew_23 : decode cX7_placeAnew 23 = .ok (.if_icmp .ge 34, 3) := by decide +kernel
theorem dX7_placeAnew_26 : decode cX7_placeAnew 26 = .ok (.aload_n 0, 1) := by decide +kernel
theorem dX7_placeAnew_27 : decode cX7_placeAnew 27 = .ok (.getfield 37, 3) := by decide +kernel
theorem dX7_placeAnew_30 : decode cX7_placeAnew 30 = .ok (.iload_n 2, 1) := by decide +kernel
theorem dX7_placeAnew_31 : decode cX7_placeAnew 31 = .ok (.invokevirtual 182, 3) := by decide +kernel
theorem dX7_placeAnew_34 : decode cX7_placeAnew 34 = .ok (.checkcast 191, 3) := by decide +kernel
theorem dX7_placeAnew_37 : decode cX7_placeAnew 37 = .ok (.astore_n 3, 1) := by decide +kernel
theorem dX7_placeAnew_38 : decode cX7_placeAnew 38 = .ok (.aload_n 0, 1) := by decide +kernel
theorem dX7_placeAnew_39 : decode cX7_placeAnew 39 = .ok (.getfield 43, 3) := by decide +kernel
theorem dX7_placeAnew_42 : decode cX7_placeAnew 42 = .ok (.aload_n 3, 1) := by decide +kernel
theorem dX7_placeAnew_43 : decode cX7_placeAnew 43 = .ok (.aload_n 0, 1) := by decide +kernel
theorem dX7_placeAnew_44 : decode cX7_placeAnew 44 = .ok (.aload_n 3, 1) := by decide +kernel
theorem dX7_placeAnew_45 : decode cX7_placeAnew 45 = .ok (.invokevirtual 273, 3) := by decide +kernel
theorem dX7_placeAnew_48 : decode cX7_placeAnew 48 = .ok (.invokevirtual 277, 3) := by decide +kernel
theorem dX7_placeAnew_51 : decode cX7_placeAnew 51 = .ok (.iinc 2 1, 3) := by decide +kernel
theorem dX7_placeAnew_54 : decode cX7_placeAnew 54 = .ok (.goto (-39), 3) := by decide +kernel
theorem dX7_placeAnew_57 : decode cX7_placeAnew 57 = .ok (.aload_n 0, 1) := by decide +kernel
theorem dX7_placeAnew_58 : decode cX7_placeAnew 58 = .ok (.getfield 43, 3) := by decide +kernel
theorem dX7_placeAnew_61 : decode cX7_placeAnew 61 = .ok (.iload_n 1, 1) := by decide +kernel
theorem dX7_placeAnew_62 : decode cX7_placeAnew 62 = .ok (.invokevirtual 258, 3) := by decide +kernel
theorem dX7_placeAnew_65 : decode cX7_placeAnew 65 = .ok (.ireturn, 1) := by decide +kernel
theorem dX7_hack_0 : decode cX7_hack 0 = .ok (.iload_n 1, 1) := by decide +kernel
theorem dX7_hack_1 : decode cX7_hack 1 = .ok (.bipush 8, 2) := by decide +kernel
theorem dX7_hack_3 : decode cX7_hack 3 = .ok (.invokestatic 135, 3) := by decide +kernel
theorem dX7_hack_6 : decode cX7_hack 6 = .ok (.aload_n 0, 1) := by decide +kernel
theorem dX7_hack_7 : decode cX7_hack 7 = .ok (.iload_n 2, 1) := by decide +kernel
theorem dX7_hack_8 : decode cX7_hack 8 = .ok (.invokevirtual 220, 3) := by decide +kernel
theorem dX7_hack_11 : decode cX7_hack 11 = .ok (.astore_n 3, 1) := by decide +kernel
theorem dX7_hack_12 : decode cX7_hack 12 = .ok (.aload_n 3, 1) := by decide +kernel
theorem dX7_hack_13 : decode cX7_hack 13 = .ok (.getfield 212, 3) := by decide +kernel
theorem dX7_hack_16 : decode cX7_hack 16 = .ok (.astore 4, 2) := by decide +kernel
theorem dX7_hack_18 : decode cX7_hack 18 = .ok (.aload_n 0, 1) := by decide +kernel
theorem dX7_hack_19 : decode cX7_hack 19 = .ok (.iload_n 1, 1) := by decide +kernel
theorem dX7_hack_20 : decode cX7_hack 20 = .ok (.aload 4, 2) := by decide +kernel
theorem dX7_hack_22 : decode cX7_hack 22 = .ok (.invokevirtual 281, 3) := by decide +kernel
theorem dX7_hack_25 : decode cX7_hack 25 = .ok (.ifCond .ne 14, 3) := by decide +kernel
theorem dX7_hack_28 : decode cX7_hack 28 = .ok (.new 75, 3) := by decide +kernel
theorem dX7_hack_31 : decode cX7_hack 31 = .ok (.dup, 1) := by decide +kernel
theorem dX7_hack_32 : decode cX7_hack 32 = .ok (.ldc_w 285, 3) := by decide +kernel
theorem dX7_hack_35 : decode cX7_hack 35 = .ok (.invokespecial 79, 3) := by decide +kernel
theorem dX7_hack_38 : decode cX7_hack 38 = .ok (.athrow, 1) := by decide +kernel
theorem dX7_hack_39 : decode cX7_hack 39 = .ok (.aload_n 3, 1) := by decide +kernel
theorem dX7_hack_40 : decode cX7_hack 40 = .ok (.getfield 205, 3) := by decide +kernel
theorem dX7_hack_43 : decode cX7_hack 43 = .ok (.iload_n 1, 1) := by decide +kernel
theorem dX7_hack_44 : decode cX7_hack 44 = .ok (.if_icmp .eq 10, 3) := by decide +kernel
theorem dX7_hack_47 : decode cX7_hack 47 = .ok (.aload_n 3, 1) := by decide +kernel
theorem dX7_hack_48 : decode cX7_hack 48 = .ok (.getfield 224, 3) := by decide +kernel
theorem dX7_hack_51 : decode cX7_hack 51 = .ok (.ifCond .eq 14, 3) := by decide +kernel
theorem dX7_hack_54 : decode cX7_hack 54 = .ok (.new 75, 3) := by decide +kernel
theorem dX7_hack_57 : decode cX7_hack 57 = .ok (.dup, 1) := by decide +kernel
theorem dX7_hack_58 : decode cX7_hack 58 = .ok (.ldc_w 287, 3) := by decide +kernel
theorem dX7_hack_61 : decode cX7_hack 61 = .ok (.invokespecial 79, 3) := by decide +kernel
theorem dX7_hack_64 : decode cX7_hack 64 = .ok (.athrow, 1) := by decide +kernel
theorem dX7_hack_65 : decode cX7_hack 65 = .ok (.aload 4, 2) := by decide +kernel
theorem dX7_hack_67 : decode cX7_hack 67 = .ok (.getfield 138, 3) := by decide +kernel
theorem dX7_hack_70 : decode cX7_hack 70 = .ok (.invokevirtual 107, 3) := by decide +kernel
theorem dX7_hack_73 : decode cX7_hack 73 = .ok (.bipush 12, 2) := by decide +kernel
theorem dX7_hack_75 : decode cX7_hack 75 = .ok (.if_icmp .ge 19, 3) := by decide +kernel
theorem dX7_hack_78 : decode cX7_hack 78 = .ok (.aload_n 0, 1) := by decide +kernel
theorem dX7_hack_79 : decode cX7_hack 79 = .ok (.aload 4, 2) := by decide +kernel
theorem dX7_hack_81 : decode cX7_hack 81 = .ok (.getfield 117, 3) := by decide +kernel
theorem dX7_hack_84 : decode cX7_hack 84 = .ok (.aload_n 0, 1) := by decide +kernel
theorem dX7_hack_85 : decode cX7_hack 85 = .ok (.getfield 19, 3) := by decide +kernel
theorem dX7_hack_88 : decode cX7_hack 88 = .ok (.invokevirtual 143, 3) := by decide +kernel
theorem dX7_hack_91 : decode cX7_hack 91 = .ok (.ifCond .ne 14, 3) := by decide +kernel
theorem dX7_hack_94 : decode cX7_hack 94 = .ok (.new 75, 3) := by decide +kernel
theorem dX7_hack_97 : decode cX7_hack 97 = .ok (.dup, 1) := by decide +kernel
theorem dX7_hack_98 : decode cX7_hack 98 = .ok (.ldc_w 289, 3) := by decide +kernel
theorem dX7_hack_101 : decode cX7_hack 101 = .ok (.invokespecial 79, 3) := by decide +kernel
theorem dX7_hack_104 : decode cX7_hack 104 = .ok (.athrow, 1) := by decide +kernel
theorem dX7_hack_105 : decode cX7_hack 105 = .ok (.new 149, 3) := by decide +kernel
theorem dX7_hack_108 : decode cX7_hack 108 = .ok (.dup, 1) := by decide +kernel
theorem dX7_hack_109 : decode cX7_hack 109 = .ok (.aload_n 0, 1) := by decide +kernel
theorem dX7_hack_110 : decode cX7_hack 110 = .ok (.getfield 19, 3) := by decide +kernel
theorem dX7_hack_113 : decode cX7_hack 113 = .ok (.aload_n 0, 1) := by decide +kernel
theorem dX7_hack_114 : decode cX7_hack 114 = .ok (.getfield 26, 3) := by decide +kernel
theorem dX7_hack_117 : decode cX7_hack 117 = .ok (.getfield 100, 3) := by decide +kernel
theorem dX7_hack_120 : decode cX7_hack 120 = .ok (.iconst 3, 1) := by decide +kernel
theorem dX7_hack_121 : decode cX7_hack 121 = .ok (.invokespecial 151, 3) := by decide +kernel
theorem dX7_hack_124 : decode cX7_hack 124 = .ok (.astore 5, 2) := by decide +kernel
theorem dX7_hack_126 : decode cX7_hack 126 = .ok (.aload_n 0, 1) := by decide +kernel
theorem dX7_hack_127 : decode cX7_hack 127 = .ok (.getfield 19, 3) := by decide +kernel
theorem dX7_hack_130 : decode cX7_hack 130 = .ok (.iconst 0, 1) := by decide +kernel
theorem dX7_hack_131 : decode cX7_hack 131 = .ok (.putfield 86, 3) := by decide +kernel
theorem dX7_hack_134 : decode cX7_hack 134 = .ok (.aload_n 0, 1) := by decide +kernel
theorem dX7_hack_135 : decode cX7_hack 135 = .ok (.aload_n 3, 1) := by decide +kernel
theorem dX7_hack_136 : decode cX7_hack 136 = .ok (.aload 5, 2) := by decide +kernel
theorem dX7_hack_138 : decode cX7_hack 138 = .ok (.invokevirtual 291, 3) := by decide +kernel
theorem dX7_hack_141 : decode cX7_hack 141 = .ok (.ifCond .ne 15, 3) := by decide +kernel
theorem dX7_hack_144 : decode cX7_hack 144 = .ok (.aload_n 0, 1) := by decide +kernel
theorem dX7_hack_145 : decode cX7_hack 145 = .ok (.getfield 51, 3) := by decide +kernel
theorem dX7_hack_148 : decode cX7_hack 148 = .ok (.iload_n 1, 1) := by decide +kernel
theorem dX7_hack_149 : decode cX7_hack 149 = .ok (.dup2, 1) := by decide +kernel
theorem dX7_hack_150 : decode cX7_hack 150 = .ok (.iaload, 1) := by decide +kernel
theorem dX7_hack_151 : decode cX7_hack 151 = .ok (.iconst 1, 1) := by decide +kernel
theorem dX7_hack_152 : decode cX7_hack 152 = .ok (.isub, 1) := by decide +kernel
theorem dX7_hack_153 : decode cX7_hack 153 = .ok (.iastore, 1) := by decide +kernel
theorem dX7_hack_154 : decode cX7_hack 154 = .ok (.iconst 0, 1) := by decide +kernel
theorem dX7_hack_155 : decode cX7_hack 155 = .ok (.ireturn, 1) := by decide +kernel
theorem dX7_hack_156 : decode cX7_hack 156 = .ok (.aload 4, 2) := by decide +kernel
theorem dX7_hack_158 : decode cX7_hack 158 = .ok (.aload 5, 2) := by decide +kernel
theorem dX7_hack_160 : decode cX7_hack 160 = .ok (.invokevirtual 154, 3) := by decide +kernel
theorem dX7_hack_163 : decode cX7_hack 163 = .ok (.aload_n 0, 1) := by decide +kernel
theorem dX7_hack_164 : decode cX7_hack 164 = .ok (.aload_n 3, 1) := by decide +kernel
theorem dX7_hack_165 : decode cX7_hack 165 = .ok (.invokevirtual 208, 3) := by decide +kernel
theorem dX7_hack_168 : decode cX7_hack 168 = .ok (.aload_n 0, 1) := by decide +kernel
theorem dX7_hack_169 : decode cX7_hack 169 = .ok (.getfield 51, 3) := by decide +kernel
theorem dX7_hack_172 : decode cX7_hack 172 = .ok (.iload_n 1, 1) := by decide +kernel
theorem dX7_hack_173 : decode cX7_hack 173 = .ok (.dup2, 1) := by decide +kernel
theorem dX7_hack_174 : decode cX7_hack 174 = .ok (.iaload, 1) := by decide +kernel
theorem dX7_hack_175 : decode cX7_hack 175 = .ok (.iconst 1, 1) := by decide +kernel
theorem dX7_hack_176 : decode cX7_hack 176 = .ok (.iadd, 1) := by decide +kernel
theorem dX7_hack_177 : decode cX7_hack 177 = .ok (.iastore, 1) := by decide +kernel
theorem dX7_hack_178 : decode cX7_hack 178 = .ok (.iconst 1, 1) := by decide +kernel
theorem dX7_hack_179 : decode cX7_hack 179 = .ok (.ireturn, 1) := by decide +kernel
theorem dX7_needRange_0 : decode cX7_needRange 0 = .ok (.iload_n 0, 1) := by decide +kernel
theorem dX7_needRange_1 : decode cX7_needRange 1 = .ok (.iload_n 1, 1) := by decide +kernel
theorem dX7_needRange_2 : decode cX7_needRange 2 = .ok (.if_icmp .lt 8, 3) := by decide +kernel
theorem dX7_needRange_5 : decode cX7_needRange 5 = .ok (.iload_n 0, 1) := by decide +kernel
theorem dX7_needRange_6 : decode cX7_needRange 6 = .ok (.iload_n 2, 1) := by decide +kernel
theorem dX7_needRange_7 : decode cX7_needRange 7 = .ok (.if_icmp .le 14, 3) := by decide +kernel
theorem dX7_needRange_10 : decode cX7_needRange 10 = .ok (.new 295, 3) := by decide +kernel
theorem dX7_needRange_13 : decode cX7_needRange 13 = .ok (.dup, 1) := by decide +kernel
theorem dX7_needRange_14 : decode cX7_needRange 14 = .ok (.ldc_w 297, 3) := by decide +kernel
theorem dX7_needRange_17 : decode cX7_needRange 17 = .ok (.invokespecial 299, 3) := by decide +kernel
theorem dX7_needRange_20 : decode cX7_needRange 20 = .ok (.athrow, 1) := by decide +kernel
theorem dX7_needRange_21 : decode cX7_needRange 21 = .ok (.return_, 1) := by decide +kernel
theorem dX7_needIndex_0 : decode cX7_needIndex 0 = .ok (.iload_n 0, 1) := by decide +kernel
theorem dX7_needIndex_1 : decode cX7_needIndex 1 = .ok (.ifCond .lt 8, 3) := by decide +kernel
theorem dX7_needIndex_4 : decode cX7_needIndex 4 = .ok (.iload_n 0, 1) := by decide +kernel
theorem dX7_needIndex_5 : decode cX7_needIndex 5 = .ok (.iload_n 1, 1) := by decide +kernel
theorem dX7_needIndex_6 : decode cX7_needIndex 6 = .ok (.if_icmp .lt 14, 3) := by decide +kernel
theorem dX7_needIndex_9 : decode cX7_needIndex 9 = .ok (.new 177, 3) := by decide +kernel
theorem dX7_needIndex_12 : decode cX7_needIndex 12 = .ok (.dup, 1) := by decide +kernel
theorem dX7_needIndex_13 : decode cX7_needIndex 13 = .ok (.ldc_w 300, 3) := by decide +kernel
theorem dX7_needIndex_16 : decode cX7_needIndex 16 = .ok (.invokespecial 181, 3) := by decide +kernel
theorem dX7_needIndex_19 : decode cX7_needIndex 19 = .ok (.athrow, 1) := by decide +kernel
theorem dX7_needIndex_20 : decode cX7_needIndex 20 = .ok (.return_, 1) := by decide +kernel
theorem dX7_problemAt_0 : decode cX7_problemAt 0 = .ok (.iload_n 1, 1) := by decide +kernel
theorem dX7_problemAt_1 : decode cX7_problemAt 1 = .ok (.aload_n 0, 1) := by decide +kernel
theorem dX7_problemAt_2 : decode cX7_problemAt 2 = .ok (.getfield 33, 3) := by decide +kernel
theorem dX7_problemAt_5 : decode cX7_problemAt 5 = .ok (.invokevirtual 107, 3) := by decide +kernel
theorem dX7_problemAt_8 : decode cX7_problemAt 8 = .ok (.invokestatic 135, 3) := by decide +kernel
theorem dX7_problemAt_11 : decode cX7_problemAt 11 = .ok (.aload_n 0, 1) := by decide +kernel
theorem dX7_problemAt_12 : decode cX7_problemAt 12 = .ok (.getfield 33, 3) := by decide +kernel
theorem dX7_problemAt_15 : decode cX7_problemAt 15 = .ok (.iload_n 1, 1) := by decide +kernel
theorem dX7_problemAt_16 : decode cX7_problemAt 16 = .ok (.invokevirtual 182, 3) := by decide +kernel
theorem dX7_problemAt_19 : decode cX7_problemAt 19 = .ok (.checkcast 113, 3) := by decide +kernel
theorem dX7_problemAt_22 : decode cX7_problemAt 22 = .ok (.areturn, 1) := by decide +kernel
theorem dX7_entryAt_0 : decode cX7_entryAt 0 = .ok (.iload_n 1, 1) := by decide +kernel
theorem dX7_entryAt_1 : decode cX7_entryAt 1 = .ok (.aload_n 0, 1) := by decide +kernel
theorem dX7_entryAt_2 : decode cX7_entryAt 2 = .ok (.getfield 37, 3) := by decide +kernel
theorem dX7_entryAt_5 : decode cX7_entryAt 5 = .ok (.invokevirtual 107, 3) := by decide +kernel
theorem dX7_entryAt_8 : decode cX7_entryAt 8 = .ok (.invokestatic 135, 3) := by decide +kernel
theorem dX7_entryAt_11 : decode cX7_entryAt 11 = .ok (.aload_n 0, 1) := by decide +kernel
theorem dX7_entryAt_12 : decode cX7_entryAt 12 = .ok (.getfield 37, 3) := by decide +kernel
theorem dX7_entryAt_15 : decode cX7_entryAt 15 = .ok (.iload_n 1, 1) := by decide +kernel
theorem dX7_entryAt_16 : decode cX7_entryAt 16 = .ok (.invokevirtual 182, 3) := by decide +kernel
theorem dX7_entryAt_19 : decode cX7_entryAt 19 = .ok (.checkcast 191, 3) := by decide +kernel
theorem dX7_entryAt_22 : decode cX7_entryAt 22 = .ok (.areturn, 1) := by decide +kernel
theorem dX7_findsAnswer_0 : decode cX7_findsAnswer 0 = .ok (.aload_n 0, 1) := by decide +kernel
theorem dX7_findsAnswer_1 : decode cX7_findsAnswer 1 = .ok (.getfield 26, 3) := by decide +kernel
theorem dX7_findsAnswer_4 : decode cX7_findsAnswer 4 = .ok (.aload_n 1, 1) := by decide +kernel
theorem dX7_findsAnswer_5 : decode cX7_findsAnswer 5 = .ok (.aload_n 2, 1) := by decide +kernel
theorem dX7_findsAnswer_6 : decode cX7_findsAnswer 6 = .ok (.sipush 500, 3) := by decide +kernel
theorem dX7_findsAnswer_9 : decode cX7_findsAnswer 9 = .ok (.invokevirtual 93, 3) := by decide +kernel
theorem dX7_findsAnswer_12 : decode cX7_findsAnswer 12 = .ok (.ifCond .ne 7, 3) := by decide +kernel
theorem dX7_findsAnswer_15 : decode cX7_findsAnswer 15 = .ok (.iconst 1, 1) := by decide +kernel
theorem dX7_findsAnswer_16 : decode cX7_findsAnswer 16 = .ok (.goto 4, 3) := by decide +kernel
theorem dX7_findsAnswer_19 : decode cX7_findsAnswer 19 = .ok (.iconst 0, 1) := by decide +kernel
theorem dX7_findsAnswer_20 : decode cX7_findsAnswer 20 = .ok (.ireturn, 1) := by decide +kernel
theorem dX7_findsAllAnswers_0 : decode cX7_findsAllAnswers 0 = .ok (.iconst 0, 1) := by decide +kernel
theorem dX7_findsAllAnswers_1 : decode cX7_findsAllAnswers 1 = .ok (.istore_n 3, 1) := by decide +kernel
theorem dX7_findsAllAnswers_2 : decode cX7_findsAllAnswers 2 = .ok (.iload_n 3, 1) := by decide +kernel
theorem dX7_findsAllAnswers_3 : decode cX7_findsAllAnswers 3 = .ok (.aload_n 1, 1) := by decide +kernel
theorem dX7_findsAllAnswers_4 : decode cX7_findsAllAnswers 4 = .ok (.getfield 138, 3) := by decide +kernel
theorem dX7_findsAllAnswers_7 : decode cX7_findsAllAnswers 7 = .ok (.invokevirtual 107, 3) := by decide +kernel
theorem dX7_findsAllAnswers_10 : decode cX7_findsAllAnswers 10 = .ok (.if_icmp .ge 33, 3) := by decide +kernel
theorem dX7_findsAllAnswers_13 : decode cX7_findsAllAnswers 13 = .ok (.aload_n 0, 1) := by decide +kernel
theorem dX7_findsAllAnswers_14 : decode cX7_findsAllAnswers 14 = .ok (.aload_n 2, 1) := by decide +kernel
theorem dX7_findsAllAnswers_15 : decode cX7_findsAllAnswers 15 = .ok (.aload_n 1, 1) := by decide +kernel
theorem dX7_findsAllAnswers_16 : decode cX7_findsAllAnswers 16 = .ok (.getfield 138, 3) := by decide +kernel
theorem dX7_findsAllAnswers_19 : decode cX7_findsAllAnswers 19 = .ok (.iload_n 3, 1) := by decide +kernel
theorem dX7_findsAllAnswers_20 : decode cX7_findsAllAnswers 20 = .ok (.invokevirtual 182, 3) := by decide +kernel
theorem dX7_findsAllAnswers_23 : decode cX7_findsAllAnswers 23 = .ok (.checkcast 149, 3) := by decide +kernel
theorem dX7_findsAllAnswers_26 : decode cX7_findsAllAnswers 26 = .ok (.getfield 302, 3) := by decide +kernel
theorem dX7_findsAllAnswers_29 : decode cX7_findsAllAnswers 29 = .ok (.invokevirtual 143, 3) := by decide +kernel
theorem dX7_findsAllAnswers_32 : decode cX7_findsAllAnswers 32 = .ok (.ifCond .ne 5, 3) := by decide +kernel
theorem dX7_findsAllAnswers_35 : decode cX7_findsAllAnswers 35 = .ok (.iconst 0, 1) := by decide +kernel
theorem dX7_findsAllAnswers_36 : decode cX7_findsAllAnswers 36 = .ok (.ireturn, 1) := by decide +kernel
theorem dX7_findsAllAnswers_37 : decode cX7_findsAllAnswers 37 = .ok (.iinc 3 1, 3) := by decide +kernel
theorem dX7_findsAllAnswers_40 : decode cX7_findsAllAnswers 40 = .ok (.goto (-38), 3) := by decide +kernel
theorem dX7_findsAllAnswers_43 : decode cX7_findsAllAnswers 43 = .ok (.iconst 1, 1) := by decide +kernel
theorem dX7_findsAllAnswers_44 : decode cX7_findsAllAnswers 44 = .ok (.ireturn, 1) := by decide +kernel
theorem dX7_renewAnswers_0 : decode cX7_renewAnswers 0 = .ok (.iconst 0, 1) := by decide +kernel
theorem dX7_renewAnswers_1 : decode cX7_renewAnswers 1 = .ok (.istore_n 2, 1) := by decide +kernel
theorem dX7_renewAnswers_2 : decode cX7_renewAnswers 2 = .ok (.iload_n 2, 1) := by decide +kernel
theorem dX7_renewAnswers_3 : decode cX7_renewAnswers 3 = .ok (.aload_n 1, 1) := by decide +kernel
theorem dX7_renewAnswers_4 : decode cX7_renewAnswers 4 = .ok (.getfield 138, 3) := by decide +kernel
theorem dX7_renewAnswers_7 : decode cX7_renewAnswers 7 = .ok (.invokevirtual 107, 3) := by decide +kernel
theorem dX7_renewAnswers_10 : decode cX7_renewAnswers 10 = .ok (.if_icmp .ge 50, 3) := by decide +kernel
theorem dX7_renewAnswers_13 : decode cX7_renewAnswers 13 = .ok (.aload_n 1, 1) := by decide +kernel
theorem dX7_renewAnswers_14 : decode cX7_renewAnswers 14 = .ok (.getfield 138, 3) := by decide +kernel
theorem dX7_renewAnswers_17 : decode cX7_renewAnswers 17 = .ok (.iload_n 2, 1) := by decide +kernel
theorem dX7_renewAnswers_18 : decode cX7_renewAnswers 18 = .ok (.invokevirtual 182, 3) := by decide +kernel
theorem dX7_renewAnswers_21 : decode cX7_renewAnswers 21 = .ok (.checkcast 149, 3) := by decide +kernel
theorem dX7_renewAnswers_24 : decode cX7_renewAnswers 24 = .ok (.astore_n 3, 1) := by decide +kernel
theorem dX7_renewAnswers_25 : decode cX7_renewAnswers 25 = .ok (.aload_n 0, 1) := by decide +kernel
theorem dX7_renewAnswers_26 : decode cX7_renewAnswers 26 = .ok (.aload_n 1, 1) := by decide +kernel
theorem dX7_renewAnswers_27 : decode cX7_renewAnswers 27 = .ok (.getfield 117, 3) := by decide +kernel
theorem dX7_renewAnswers_30 : decode cX7_renewAnswers 30 = .ok (.aload_n 3, 1) := by decide +kernel
theorem dX7_renewAnswers_31 : decode cX7_renewAnswers 31 = .ok (.getfield 302, 3) := by decide +kernel
theorem dX7_renewAnswers_34 : decode cX7_renewAnswers 34 = .ok (.invokevirtual 143, 3) := by decide +kernel
theorem dX7_renewAnswers_37 : decode cX7_renewAnswers 37 = .ok (.ifCond .eq 17, 3) := by decide +kernel
theorem dX7_renewAnswers_40 : decode cX7_renewAnswers 40 = .ok (.aload_n 3, 1) := by decide +kernel
theorem dX7_renewAnswers_41 : decode cX7_renewAnswers 41 = .ok (.getfield 186, 3) := by decide +kernel
theorem dX7_renewAnswers_44 : decode cX7_renewAnswers 44 = .ok (.aload_n 0, 1) := by decide +kernel
theorem dX7_renewAnswers_45 : decode cX7_renewAnswers 45 = .ok (.getfield 26, 3) := by decide +kernel
theorem dX7_renewAnswers_48 : decode cX7_renewAnswers 48 = .ok (.getfield 100, 3) := by decide +kernel
theorem dX7_renewAnswers_51 : decode cX7_renewAnswers 51 = .ok (.invokevirtual 305, 3) := by decide +kernel
theorem dX7_renewAnswers_54 : decode cX7_renewAnswers 54 = .ok (.iinc 2 1, 3) := by decide +kernel
theorem dX7_renewAnswers_57 : decode cX7_renewAnswers 57 = .ok (.goto (-55), 3) := by decide +kernel
theorem dX7_renewAnswers_60 : decode cX7_renewAnswers 60 = .ok (.return_, 1) := by decide +kernel
theorem dX7_tryOut_0 : decode cX7_tryOut 0 = .ok (.aload_n 0, 1) := by decide +kernel
theorem dX7_tryOut_1 : decode cX7_tryOut 1 = .ok (.getfield 26, 3) := by decide +kernel
theorem dX7_tryOut_4 : decode cX7_tryOut 4 = .ok (.aload_n 1, 1) := by decide +kernel
theorem dX7_tryOut_5 : decode cX7_tryOut 5 = .ok (.getfield 196, 3) := by decide +kernel
theorem dX7_tryOut_8 : decode cX7_tryOut 8 = .ok (.aload_n 2, 1) := by decide +kernel
theorem dX7_tryOut_9 : decode cX7_tryOut 9 = .ok (.getfield 302, 3) := by decide +kernel
theorem dX7_tryOut_12 : decode cX7_tryOut 12 = .ok (.aload_n 1, 1) := by decide +kernel
theorem dX7_tryOut_13 : decode cX7_tryOut 13 = .ok (.getfield 212, 3) := by decide +kernel
theorem dX7_tryOut_16 : decode cX7_tryOut 16 = .ok (.getfield 309, 3) := by decide +kernel
theorem dX7_tryOut_19 : decode cX7_tryOut 19 = .ok (.invokevirtual 93, 3) := by decide +kernel
theorem dX7_tryOut_22 : decode cX7_tryOut 22 = .ok (.istore_n 3, 1) := by decide +kernel
theorem dX7_tryOut_23 : decode cX7_tryOut 23 = .ok (.iload_n 3, 1) := by decide +kernel
theorem dX7_tryOut_24 : decode cX7_tryOut 24 = .ok (.ifCond .eq 5, 3) := by decide +kernel
theorem dX7_tryOut_27 : decode cX7_tryOut 27 = .ok (.iload_n 3, 1) := by decide +kernel
theorem dX7_tryOut_28 : decode cX7_tryOut 28 = .ok (.ireturn, 1) := by decide +kernel
theorem dX7_tryOut_29 : decode cX7_tryOut 29 = .ok (.aload_n 1, 1) := by decide +kernel
theorem dX7_tryOut_30 : decode cX7_tryOut 30 = .ok (.getfield 212, 3) := by decide +kernel
theorem dX7_tryOut_33 : decode cX7_tryOut 33 = .ok (.getfield 171, 3) := by decide +kernel
theorem dX7_tryOut_36 : decode cX7_tryOut 36 = .ok (.iconst 1, 1) := by decide +kernel
theorem dX7_tryOut_37 : decode cX7_tryOut 37 = .ok (.if_icmp .ne 7, 3) := by decide +kernel
theorem dX7_tryOut_40 : decode cX7_tryOut 40 = .ok (.iconst 1, 1) := by decide +kernel
theorem dX7_tryOut_41 : decode cX7_tryOut 41 = .ok (.goto 4, 3) := by decide +kernel
theorem dX7_tryOut_44 : decode cX7_tryOut 44 = .ok (.iconst 0, 1) := by decide +kernel
theorem dX7_tryOut_45 : decode cX7_tryOut 45 = .ok (.istore 4, 2) := by decide +kernel
theorem dX7_tryOut_47 : decode cX7_tryOut 47 = .ok (.aload_n 0, 1) := by decide +kernel
theorem dX7_tryOut_48 : decode cX7_tryOut 48 = .ok (.getfield 26, 3) := by decide +kernel
theorem dX7_tryOut_51 : decode cX7_tryOut 51 = .ok (.getfield 100, 3) := by decide +kernel
theorem dX7_tryOut_54 : decode cX7_tryOut 54 = .ok (.iload 4, 2) := by decide +kernel
theorem dX7_tryOut_56 : decode cX7_tryOut 56 = .ok (.aload_n 2, 1) := by decide +kernel
theorem dX7_tryOut_57 : decode cX7_tryOut 57 = .ok (.getfield 186, 3) := by decide +kernel
theorem dX7_tryOut_60 : decode cX7_tryOut 60 = .ok (.invokevirtual 312, 3) := by decide +kernel
theorem dX7_tryOut_63 : decode cX7_tryOut 63 = .ok (.ifCond .eq 5, 3) := by decide +kernel
theorem dX7_tryOut_66 : decode cX7_tryOut 66 = .ok (.iconst 0, 1) := by decide +kernel
theorem dX7_tryOut_67 : decode cX7_tryOut 67 = .ok (.ireturn, 1) := by decide +kernel
theorem dX7_tryOut_68 : decode cX7_tryOut 68 = .ok (.aload_n 0, 1) := by decide +kernel
theorem dX7_tryOut_69 : decode cX7_tryOut 69 = .ok (.getfield 26, 3) := by decide +kernel
theorem dX7_tryOut_72 : decode cX7_tryOut 72 = .ok (.getfield 100, 3) := by decide +kernel
theorem dX7_tryOut_75 : decode cX7_tryOut 75 = .ok (.getfield 86, 3) := by decide +kernel
theorem dX7_tryOut_78 : decode cX7_tryOut 78 = .ok (.ifCond .ne 17, 3) := by decide +kernel
theorem dX7_tryOut_81 : decode cX7_tryOut 81 = .ok (.aload_n 2, 1) := by decide +kernel
theorem dX7_tryOut_82 : decode cX7_tryOut 82 = .ok (.getfield 186, 3) := by decide +kernel
theorem dX7_tryOut_85 : decode cX7_tryOut 85 = .ok (.getfield 86, 3) := by decide +kernel
theorem dX7_tryOut_88 : decode cX7_tryOut 88 = .ok (.ifCond .le 7, 3) := by decide +kernel
theorem dX7_tryOut_91 : decode cX7_tryOut 91 = .ok (.iconst 5, 1) := by decide +kernel
theorem dX7_tryOut_92 : decode cX7_tryOut 92 = .ok (.goto 4, 3) := by decide +kernel
theorem dX7_tryOut_95 : decode cX7_tryOut 95 = .ok (.iconst 1, 1) := by decide +kernel
theorem dX7_tryOut_96 : decode cX7_tryOut 96 = .ok (.ireturn, 1) := by decide +kernel
theorem dX7_passesAll_0 : decode cX7_passesAll 0 = .ok (.aload_n 1, 1) := by decide +kernel
theorem dX7_passesAll_1 : decode cX7_passesAll 1 = .ok (.getfield 212, 3) := by decide +kernel
theorem dX7_passesAll_4 : decode cX7_passesAll 4 = .ok (.getfield 138, 3) := by decide +kernel
theorem dX7_passesAll_7 : decode cX7_passesAll 7 = .ok (.astore_n 2, 1) := by decide +kernel
theorem dX7_passesAll_8 : decode cX7_passesAll 8 = .ok (.iconst 0, 1) := by decide +kernel
theorem dX7_passesAll_9 : decode cX7_passesAll 9 = .ok (.istore_n 3, 1) := by decide +kernel
theorem dX7_passesAll_10 : decode cX7_passesAll 10 = .ok (.iload_n 3, 1) := by decide +kernel
theorem dX7_passesAll_11 : decode cX7_passesAll 11 = .ok (.aload_n 2, 1) := by decide +kernel
theorem dX7_passesAll_12 : decode cX7_passesAll 12 = .ok (.invokevirtual 107, 3) := by decide +kernel
theorem dX7_passesAll_15 : decode cX7_passesAll 15 = .ok (.if_icmp .ge 27, 3) := by decide +kernel
theorem dX7_passesAll_18 : decode cX7_passesAll 18 = .ok (.aload_n 0, 1) := by decide +kernel
theorem dX7_passesAll_19 : decode cX7_passesAll 19 = .ok (.aload_n 1, 1) := by decide +kernel
theorem dX7_passesAll_20 : decode cX7_passesAll 20 = .ok (.aload_n 2, 1) := by decide +kernel
theorem dX7_passesAll_21 : decode cX7_passesAll 21 = .ok (.iload_n 3, 1) := by decide +kernel
theorem dX7_passesAll_22 : decode cX7_passesAll 22 = .ok (.invokevirtual 182, 3) := by decide +kernel
theorem dX7_passesAll_25 : decode cX7_passesAll 25 = .ok (.checkcast 149, 3) := by decide +kernel
theorem dX7_passesAll_28 : decode cX7_passesAll 28 = .ok (.invokevirtual 291, 3) := by decide +kernel
theorem dX7_passesAll_31 : decode cX7_passesAll 31 = .ok (.ifCond .eq 5, 3) := by decide +kernel
theorem dX7_passesAll_34 : decode cX7_passesAll 34 = .ok (.iconst 0, 1) := by decide +kernel
theorem dX7_passesAll_35 : decode cX7_passesAll 35 = .ok (.ireturn, 1) := by decide +kernel
theorem dX7_passesAll_36 : decode cX7_passesAll 36 = .ok (.iinc 3 1, 3) := by decide +kernel
theorem dX7_passesAll_39 : decode cX7_passesAll 39 = .ok (.goto (-29), 3) := by decide +kernel
theorem dX7_passesAll_42 : decode cX7_passesAll 42 = .ok (.iconst 1, 1) := by decide +kernel
theorem dX7_passesAll_43 : decode cX7_passesAll 43 = .ok (.ireturn, 1) := by decide +kernel
theorem dX7_giveVerdict_0 : decode cX7_giveVerdict 0 = .ok (.aload_n 1, 1) := by decide +kernel
theorem dX7_giveVerdict_1 : decode cX7_giveVerdict 1 = .ok (.getfield 212, 3) := by decide +kernel
theorem dX7_giveVerdict_4 : decode cX7_giveVerdict 4 = .ok (.getfield 138, 3) := by decide +kernel
theorem dX7_giveVerdict_7 : decode cX7_giveVerdict 7 = .ok (.astore_n 2, 1) := by decide +kernel
theorem dX7_giveVerdict_8 : decode cX7_giveVerdict 8 = .ok (.iconst 0, 1) := by decide +kernel
theorem dX7_giveVerdict_9 : decode cX7_giveVerdict 9 = .ok (.istore_n 3, 1) := by decide +kernel
theorem dX7_giveVerdict_10 : decode cX7_giveVerdict 10 = .ok (.iconst 0, 1) := by decide +kernel
theorem dX7_giveVerdict_11 : decode cX7_giveVerdict 11 = .ok (.istore 4, 2) := by decide +kernel
theorem dX7_giveVerdict_13 : decode cX7_giveVerdict 13 = .ok (.aload_n 1, 1) := by decide +kernel
theorem dX7_giveVerdict_14 : decode cX7_giveVerdict 14 = .ok (.iconst 0, 1) := by decide +kernel
theorem dX7_giveVerdict_15 : decode cX7_giveVerdict 15 = .ok (.putfield 224, 3) := by decide +kernel
theorem dX7_giveVerdict_18 : decode cX7_giveVerdict 18 = .ok (.aload_n 1, 1) := by decide +kernel
theorem dX7_giveVerdict_19 : decode cX7_giveVerdict 19 = .ok (.iconst (-1), 1) := by decide +kernel
theorem dX7_giveVerdict_20 : decode cX7_giveVerdict 20 = .ok (.putfield 227, 3) := by decide +kernel
theorem dX7_giveVerdict_23 : decode cX7_giveVerdict 23 = .ok (.iconst 0, 1) := by decide +kernel
theorem dX7_giveVerdict_24 : decode cX7_giveVerdict 24 = .ok (.istore 5, 2) := by decide +kernel
theorem dX7_giveVerdict_26 : decode cX7_giveVerdict 26 = .ok (.iload 5, 2) := by decide +kernel
theorem dX7_giveVerdict_28 : decode cX7_giveVerdict 28 = .ok (.aload_n 2, 1) := by decide +kernel
theorem dX7_giveVerdict_29 : decode cX7_giveVerdict 29 = .ok (.invokevirtual 107, 3) := by decide +kernel
theorem dX7_giveVerdict_32 : decode cX7_giveVerdict 32 = .ok (.if_icmp .ge 76, 3) := by decide +kernel
theorem dX7_giveVerdict_35 : decode cX7_giveVerdict 35 = .ok (.aload_n 2, 1) := by decide +kernel
theorem dX7_giveVerdict_36 : decode cX7_giveVerdict 36 = .ok (.iload 5, 2) := by decide +kernel
theorem dX7_giveVerdict_38 : decode cX7_giveVerdict 38 = .ok (.invokevirtual 182, 3) := by decide +kernel
theorem dX7_giveVerdict_41 : decode cX7_giveVerdict 41 = .ok (.checkcast 149, 3) := by decide +kernel
theorem dX7_giveVerdict_44 : decode cX7_giveVerdict 44 = .ok (.astore 6, 2) := by decide +kernel
theorem dX7_giveVerdict_46 : decode cX7_giveVerdict 46 = .ok (.aload_n 0, 1) := by decide +kernel
theorem dX7_giveVerdict_47 : decode cX7_giveVerdict 47 = .ok (.aload_n 1, 1) := by decide +kernel
theorem dX7_giveVerdict_48 : decode cX7_giveVerdict 48 = .ok (.aload 6, 2) := by decide +kernel
theorem dX7_giveVerdict_50 : decode cX7_giveVerdict 50 = .ok (.invokevirtual 291, 3) := by decide +kernel
theorem dX7_giveVerdict_53 : decode cX7_giveVerdict 53 = .ok (.istore 7, 2) := by decide +kernel
theorem dX7_giveVerdict_55 : decode cX7_giveVerdict 55 = .ok (.iload_n 3, 1) := by decide +kernel
theorem dX7_giveVerdict_56 : decode cX7_giveVerdict 56 = .ok (.iconst 1, 1) := by decide +kernel
theorem dX7_giveVerdict_57 : decode cX7_giveVerdict 57 = .ok (.aload 6, 2) := by decide +kernel
theorem dX7_giveVerdict_59 : decode cX7_giveVerdict 59 = .ok (.getfield 316, 3) := by decide +kernel
theorem dX7_giveVerdict_62 : decode cX7_giveVerdict 62 = .ok (.ishl, 1) := by decide +kernel
theorem dX7_giveVerdict_63 : decode cX7_giveVerdict 63 = .ok (.ior, 1) := by decide +kernel
theorem dX7_giveVerdict_64 : decode cX7_giveVerdict 64 = .ok (.istore_n 3, 1) := by decide +kernel
theorem dX7_giveVerdict_65 : decode cX7_giveVerdict 65 = .ok (.iload 7, 2) := by decide +kernel
theorem dX7_giveVerdict_67 : decode cX7_giveVerdict 67 = .ok (.ifCond .eq 35, 3) := by decide +kernel
theorem dX7_giveVerdict_70 : decode cX7_giveVerdict 70 = .ok (.iload 4, 2) := by decide +kernel
theorem dX7_giveVerdict_72 : decode cX7_giveVerdict 72 = .ok (.iconst 1, 1) := by decide +kernel
theorem dX7_giveVerdict_73 : decode cX7_giveVerdict 73 = .ok (.aload 6, 2) := by decide +kernel
theorem dX7_giveVerdict_75 : decode cX7_giveVerdict 75 = .ok (.getfield 316, 3) := by decide +kernel
theorem dX7_giveVerdict_78 : decode cX7_giveVerdict 78 = .ok (.ishl, 1) := by decide +kernel
theorem dX7_giveVerdict_79 : decode cX7_giveVerdict 79 = .ok (.ior, 1) := by decide +kernel
theorem dX7_giveVerdict_80 : decode cX7_giveVerdict 80 = .ok (.istore 4, 2) := by decide +kernel
theorem dX7_giveVerdict_82 : decode cX7_giveVerdict 82 = .ok (.aload_n 1, 1) := by decide +kernel
theorem dX7_giveVerdict_83 : decode cX7_giveVerdict 83 = .ok (.getfield 227, 3) := by decide +kernel
theorem dX7_giveVerdict_86 : decode cX7_giveVerdict 86 = .ok (.iconst (-1), 1) := by decide +kernel
theorem dX7_giveVerdict_87 : decode cX7_giveVerdict 87 = .ok (.if_icmp .ne 15, 3) := by decide +kernel
theorem dX7_giveVerdict_90 : decode cX7_giveVerdict 90 = .ok (.aload_n 1, 1) := by decide +kernel
theorem dX7_giveVerdict_91 : decode cX7_giveVerdict 91 = .ok (.iload 7, 2) := by decide +kernel
theorem dX7_giveVerdict_93 : decode cX7_giveVerdict 93 = .ok (.putfield 224, 3) := by decide +kernel
theorem dX7_giveVerdict_96 : decode cX7_giveVerdict 96 = .ok (.aload_n 1, 1) := by decide +kernel
theorem dX7_giveVerdict_97 : decode cX7_giveVerdict 97 = .ok (.iload 5, 2) := by decide +kernel
theorem dX7_giveVerdict_99 : decode cX7_giveVerdict 99 = .ok (.putfield 227, 3) := by decide +kernel
theorem dX7_giveVerdict_102 : decode cX7_giveVerdict 102 = .ok (.iinc 5 1, 3) := by decide +kernel
theorem dX7_giveVerdict_105 : decode cX7_giveVerdict 105 = .ok (.goto (-79), 3) := by decide +kernel
theorem dX7_giveVerdict_108 : decode cX7_giveVerdict 108 = .ok (.aload_n 1, 1) := by decide +kernel
theorem dX7_giveVerdict_109 : decode cX7_giveVerdict 109 = .ok (.aload_n 1, 1) := by decide +kernel
theorem dX7_giveVerdict_110 : decode cX7_giveVerdict 110 = .ok (.getfield 212, 3) := by decide +kernel
theorem dX7_giveVerdict_113 : decode cX7_giveVerdict 113 = .ok (.iload_n 3, 1) := by decide +kernel
theorem dX7_giveVerdict_114 : decode cX7_giveVerdict 114 = .ok (.iload 4, 2) := by decide +kernel
theorem dX7_giveVerdict_116 : decode cX7_giveVerdict 116 = .ok (.iconst (-1), 1) := by decide +kernel
theorem dX7_giveVerdict_117 : decode cX7_giveVerdict 117 = .ok (.ixor, 1) := by decide +kernel
theorem dX7_giveVerdict_118 : decode cX7_giveVerdict 118 = .ok (.iand, 1) := by decide +kernel
theorem dX7_giveVerdict_119 : decode cX7_giveVerdict 119 = .ok (.invokevirtual 319, 3) := by decide +kernel
theorem dX7_giveVerdict_122 : decode cX7_giveVerdict 122 = .ok (.putfield 230, 3) := by decide +kernel
theorem dX7_giveVerdict_125 : decode cX7_giveVerdict 125 = .ok (.aload_n 1, 1) := by decide +kernel
theorem dX7_giveVerdict_126 : decode cX7_giveVerdict 126 = .ok (.aload_n 1, 1) := by decide +kernel
theorem dX7_giveVerdict_127 : decode cX7_giveVerdict 127 = .ok (.getfield 212, 3) := by decide +kernel
theorem dX7_giveVerdict_130 : decode cX7_giveVerdict 130 = .ok (.getfield 174, 3) := by decide +kernel
theorem dX7_giveVerdict_133 : decode cX7_giveVerdict 133 = .ok (.putfield 216, 3) := by decide +kernel
theorem dX7_giveVerdict_136 : decode cX7_giveVerdict 136 = .ok (.aload_n 0, 1) := by decide +kernel
theorem dX7_giveVerdict_137 : decode cX7_giveVerdict 137 = .ok (.getfield 47, 3) := by decide +kernel
theorem dX7_giveVerdict_140 : decode cX7_giveVerdict 140 = .ok (.aload_n 1, 1) := by decide +kernel
theorem dX7_giveVerdict_141 : decode cX7_giveVerdict 141 = .ok (.getfield 205, 3) := by decide +kernel
theorem dX7_giveVerdict_144 : decode cX7_giveVerdict 144 = .ok (.dup2, 1) := by decide +kernel
theorem dX7_giveVerdict_145 : decode cX7_giveVerdict 145 = .ok (.iaload, 1) := by decide +kernel
theorem dX7_giveVerdict_146 : decode cX7_giveVerdict 146 = .ok (.iconst 1, 1) := by decide +kernel
theorem dX7_giveVerdict_147 : decode cX7_giveVerdict 147 = .ok (.iadd, 1) := by decide +kernel
theorem dX7_giveVerdict_148 : decode cX7_giveVerdict 148 = .ok (.iastore, 1) := by decide +kernel
theorem dX7_giveVerdict_149 : decode cX7_giveVerdict 149 = .ok (.return_, 1) := by decide +kernel
theorem dX7_hasSolved_0 : decode cX7_hasSolved 0 = .ok (.iconst 0, 1) := by decide +kernel
theorem dX7_hasSolved_1 : decode cX7_hasSolved 1 = .ok (.istore_n 3, 1) := by decide +kernel
theorem dX7_hasSolved_2 : decode cX7_hasSolved 2 = .ok (.iload_n 3, 1) := by decide +kernel
theorem dX7_hasSolved_3 : decode cX7_hasSolved 3 = .ok (.aload_n 0, 1) := by decide +kernel
theorem dX7_hasSolved_4 : decode cX7_hasSolved 4 = .ok (.getfield 37, 3) := by decide +kernel
theorem dX7_hasSolved_7 : decode cX7_hasSolved 7 = .ok (.invokevirtual 107, 3) := by decide +kernel
theorem dX7_hasSolved_10 : decode cX7_hasSolved 10 = .ok (.if_icmp .ge 56, 3) := by decide +kernel
theorem dX7_hasSolved_13 : decode cX7_hasSolved 13 = .ok (.aload_n 0, 1) := by decide +kernel
theorem dX7_hasSolved_14 : decode cX7_hasSolved 14 = .ok (.getfield 37, 3) := by decide +kernel
theorem dX7_hasSolved_17 : decode cX7_hasSolved 17 = .ok (.iload_n 3, 1) := by decide +kernel
theorem dX7_hasSolved_18 : decode cX7_hasSolved 18 = .ok (.invokevirtual 182, 3) := by decide +kernel
theorem dX7_hasSolved_21 : decode cX7_hasSolved 21 = .ok (.checkcast 191, 3) := by decide +kernel
theorem dX7_hasSolved_24 : decode cX7_hasSolved 24 = .ok (.astore 4, 2) := by decide +kernel
theorem dX7_hasSolved_26 : decode cX7_hasSolved 26 = .ok (.aload 4, 2) := by decide +kernel
theorem dX7_hasSolved_28 : decode cX7_hasSolved 28 = .ok (.getfield 205, 3) := by decide +kernel
theorem dX7_hasSolved_31 : decode cX7_hasSolved 31 = .ok (.iload_n 1, 1) := by decide +kernel
theorem dX7_hasSolved_32 : decode cX7_hasSolved 32 = .ok (.if_icmp .ne 28, 3) := by decide +kernel
theorem dX7_hasSolved_35 : decode cX7_hasSolved 35 = .ok (.aload 4, 2) := by decide +kernel
theorem dX7_hasSolved_37 : decode cX7_hasSolved 37 = .ok (.getfield 212, 3) := by decide +kernel
theorem dX7_hasSolved_40 : decode cX7_hasSolved 40 = .ok (.getfield 128, 3) := by decide +kernel
theorem dX7_hasSolved_43 : decode cX7_hasSolved 43 = .ok (.aload_n 2, 1) := by decide +kernel
theorem dX7_hasSolved_44 : decode cX7_hasSolved 44 = .ok (.getfield 128, 3) := by decide +kernel
theorem dX7_hasSolved_47 : decode cX7_hasSolved 47 = .ok (.if_icmp .ne 13, 3) := by decide +kernel
theorem dX7_hasSolved_50 : decode cX7_hasSolved 50 = .ok (.aload 4, 2) := by decide +kernel
theorem dX7_hasSolved_52 : decode cX7_hasSolved 52 = .ok (.getfield 224, 3) := by decide +kernel
theorem dX7_hasSolved_55 : decode cX7_hasSolved 55 = .ok (.ifCond .ne 5, 3) := by decide +kernel
theorem dX7_hasSolved_58 : decode cX7_hasSolved 58 = .ok (.iconst 1, 1) := by decide +kernel
theorem dX7_hasSolved_59 : decode cX7_hasSolved 59 = .ok (.ireturn, 1) := by decide +kernel
theorem dX7_hasSolved_60 : decode cX7_hasSolved 60 = .ok (.iinc 3 1, 3) := by decide +kernel
theorem dX7_hasSolved_63 : decode cX7_hasSolved 63 = .ok (.goto (-61), 3) := by decide +kernel
theorem dX7_hasSolved_66 : decode cX7_hasSolved 66 = .ok (.iconst 0, 1) := by decide +kernel
theorem dX7_hasSolved_67 : decode cX7_hasSolved 67 = .ok (.ireturn, 1) := by decide +kernel
theorem dX7_longestCommon_0 : decode cX7_longestCommon 0 = .ok (.aload_n 0, 1) := by decide +kernel
theorem dX7_longestCommon_1 : decode cX7_longestCommon 1 = .ok (.getfield 58, 3) := by decide +kernel
theorem dX7_longestCommon_4 : decode cX7_longestCommon 4 = .ok (.iconst 0, 1) := by decide +kernel
theorem dX7_longestCommon_5 : decode cX7_longestCommon 5 = .ok (.invokestatic 322, 3) := by decide +kernel
theorem dX7_longestCommon_8 : decode cX7_longestCommon 8 = .ok (.iconst 0, 1) := by decide +kernel
theorem dX7_longestCommon_9 : decode cX7_longestCommon 9 = .ok (.istore_n 3, 1) := by decide +kernel
theorem dX7_longestCommon_10 : decode cX7_longestCommon 10 = .ok (.iload_n 3, 1) := by decide +kernel
theorem dX7_longestCommon_11 : decode cX7_longestCommon 11 = .ok (.aload_n 1, 1) := by decide +kernel
theorem dX7_longestCommon_12 : decode cX7_longestCommon 12 = .ok (.getfield 72, 3) := by decide +kernel
theorem dX7_longestCommon_15 : decode cX7_longestCommon 15 = .ok (.if_icmp .ge 105, 3) := by decide +kernel
theorem dX7_longestCommon_18 : decode cX7_longestCommon 18 = .ok (.iconst 0, 1) := by decide +kernel
theorem dX7_longestCommon_19 : decode cX7_longestCommon 19 = .ok (.istore 4, 2) := by decide +kernel
theorem dX7_longestCommon_21 : decode cX7_longestCommon 21 = .ok (.iconst 0, 1) := by decide +kernel
theorem dX7_longestCommon_22 : decode cX7_longestCommon 22 = .ok (.istore 5, 2) := by decide +kernel
theorem dX7_longestCommon_24 : decode cX7_longestCommon 24 = .ok (.iload 5, 2) := by decide +kernel
theorem dX7_longestCommon_26 : decode cX7_longestCommon 26 = .ok (.aload_n 2, 1) := by decide +kernel
theorem dX7_longestCommon_27 : decode cX7_longestCommon 27 = .ok (.getfield 72, 3) := by decide +kernel
theorem dX7_longestCommon_30 : decode cX7_longestCommon 30 = .ok (.if_icmp .ge 84, 3) := by decide +kernel
theorem dX7_longestCommon_33 : decode cX7_longestCommon 33 = .ok (.iload 5, 2) := by decide +kernel
theorem dX7_longestCommon_35 : decode cX7_longestCommon 35 = .ok (.iconst 1, 1) := by decide +kernel
theorem dX7_longestCommon_36 : decode cX7_longestCommon 36 = .ok (.iadd, 1) := by decide +kernel
theorem dX7_longestCommon_37 : decode cX7_longestCommon 37 = .ok (.aload_n 0, 1) := by decide +kernel
theorem dX7_longestCommon_38 : decode cX7_longestCommon 38 = .ok (.getfield 58, 3) := by decide +kernel
theorem dX7_longestCommon_41 : decode cX7_longestCommon 41 = .ok (.arraylength, 1) := by decide +kernel
theorem dX7_longestCommon_42 : decode cX7_longestCommon 42 = .ok (.if_icmp .ge 72, 3) := by decide +kernel
theorem dX7_longestCommon_45 : decode cX7_longestCommon 45 = .ok (.aload_n 0, 1) := by decide +kernel
theorem dX7_longestCommon_46 : decode cX7_longestCommon 46 = .ok (.getfield 58, 3) := by decide +kernel
theorem dX7_longestCommon_49 : decode cX7_longestCommon 49 = .ok (.iload 5, 2) := by decide +kernel
theorem dX7_longestCommon_51 : decode cX7_longestCommon 51 = .ok (.iconst 1, 1) := by decide +kernel
theorem dX7_longestCommon_52 : decode cX7_longestCommon 52 = .ok (.iadd, 1) := by decide +kernel
theorem dX7_longestCommon_53 : decode cX7_longestCommon 53 = .ok (.iaload, 1) := by decide +kernel
theorem dX7_longestCommon_54 : decode cX7_longestCommon 54 = .ok (.istore 6, 2) := by decide +kernel
theorem dX7_longestCommon_56 : decode cX7_longestCommon 56 = .ok (.aload_n 1, 1) := by decide +kernel
theorem dX7_longestCommon_57 : decode cX7_longestCommon 57 = .ok (.iload_n 3, 1) := by decide +kernel
theorem dX7_longestCommon_58 : decode cX7_longestCommon 58 = .ok (.aload_n 2, 1) := by decide +kernel
theorem dX7_longestCommon_59 : decode cX7_longestCommon 59 = .ok (.iload 5, 2) := by decide +kernel
theorem dX7_longestCommon_61 : decode cX7_longestCommon 61 = .ok (.invokevirtual 328, 3) := by decide +kernel
theorem dX7_longestCommon_64 : decode cX7_longestCommon 64 = .ok (.ifCond .eq 19, 3) := by decide +kernel
theorem dX7_longestCommon_67 : decode cX7_longestCommon 67 = .ok (.aload_n 0, 1) := by decide +kernel
theorem dX7_longestCommon_68 : decode cX7_longestCommon 68 = .ok (.getfield 58, 3) := by decide +kernel
theorem dX7_longestCommon_71 : decode cX7_longestCommon 71 = .ok (.iload 5, 2) := by decide +kernel
theorem dX7_longestCommon_73 : decode cX7_longestCommon 73 = .ok (.iconst 1, 1) := by decide +kernel
theorem dX7_longestCommon_74 : decode cX7_longestCommon 74 = .ok (.iadd, 1) := by decide +kernel
theorem dX7_longestCommon_75 : decode cX7_longestCommon 75 = .ok (.iload 4, 2) := by decide +kernel
theorem dX7_longestCommon_77 : decode cX7_longestCommon 77 = .ok (.iconst 1, 1) := by decide +kernel
theorem dX7_longestCommon_78 : decode cX7_longestCommon 78 = .ok (.iadd, 1) := by decide +kernel
theorem dX7_longestCommon_79 : decode cX7_longestCommon 79 = .ok (.iastore, 1) := by decide +kernel
theorem dX7_longestCommon_80 : decode cX7_longestCommon 80 = .ok (.goto 24, 3) := by decide +kernel
theorem dX7_longestCommon_83 : decode cX7_longestCommon 83 = .ok (.aload_n 0, 1) := by decide +kernel
theorem dX7_longestCommon_84 : decode cX7_longestCommon 84 = .ok (.getfield 58, 3) := by decide +kernel
theorem dX7_longestCommon_87 : decode cX7_longestCommon 87 = .ok (.iload 5, 2) := by decide +kernel
theorem dX7_longestCommon_89 : decode cX7_longestCommon 89 = .ok (.iconst 1, 1) := by decide +kernel
theorem dX7_longestCommon_90 : decode cX7_longestCommon 90 = .ok (.iadd, 1) := by decide +kernel
theorem dX7_longestCommon_91 : decode cX7_longestCommon 91 = .ok (.iload 6, 2) := by decide +kernel
theorem dX7_longestCommon_93 : decode cX7_longestCommon 93 = .ok (.aload_n 0, 1) := by decide +kernel
theorem dX7_longestCommon_94 : decode cX7_longestCommon 94 = .ok (.getfield 58, 3) := by decide +kernel
theorem dX7_longestCommon_97 : decode cX7_longestCommon 97 = .ok (.iload 5, 2) := by decide +kernel
theorem dX7_longestCommon_99 : decode cX7_longestCommon 99 = .ok (.iaload, 1) := by decide +kernel
theorem dX7_longestCommon_100 : decode cX7_longestCommon 100 = .ok (.invokestatic 234, 3) := by decide +kernel
theorem dX7_longestCommon_103 : decode cX7_longestCommon 103 = .ok (.iastore, 1) := by decide +kernel
theorem dX7_longestCommon_104 : decode cX7_longestCommon 104 = .ok (.iload 6, 2) := by decide +kernel
theorem dX7_longestCommon_106 : decode cX7_longestCommon 106 = .ok (.istore 4, 2) := by decide +kernel
theorem dX7_longestCommon_108 : decode cX7_longestCommon 108 = .ok (.iinc 5 1, 3) := by decide +kernel
theorem dX7_longestCommon_111 : decode cX7_longestCommon 111 = .ok (.goto (-87), 3) := by decide +kernel
theorem dX7_longestCommon_114 : decode cX7_longestCommon 114 = .ok (.iinc 3 1, 3) := by decide +kernel
theorem dX7_longestCommon_117 : decode cX7_longestCommon 117 = .ok (.goto (-107), 3) := by decide +kernel
theorem dX7_longestCommon_120 : decode cX7_longestCommon 120 = .ok (.aload_n 0, 1) := by decide +kernel
theorem dX7_longestCommon_121 : decode cX7_longestCommon 121 = .ok (.getfield 58, 3) := by decide +kernel
theorem dX7_longestCommon_124 : decode cX7_longestCommon 124 = .ok (.aload_n 2, 1) := by decide +kernel
theorem dX7_longestCommon_125 : decode cX7_longestCommon 125 = .ok (.getfield 72, 3) := by decide +kernel
theorem dX7_longestCommon_128 : decode cX7_longestCommon 128 = .ok (.bipush 16, 2) := by decide +kernel
theorem dX7_longestCommon_130 : decode cX7_longestCommon 130 = .ok (.invokestatic 332, 3) := by decide +kernel
theorem dX7_longestCommon_133 : decode cX7_longestCommon 133 = .ok (.iaload, 1) := by decide +kernel
theorem dX7_longestCommon_134 : decode cX7_longestCommon 134 = .ok (.ireturn, 1) := by decide +kernel
theorem dX7_pairOf_0 : decode cX7_pairOf 0 = .ok (.iload_n 0, 1) := by decide +kernel
theorem dX7_pairOf_1 : decode cX7_pairOf 1 = .ok (.bipush 6, 2) := by decide +kernel
theorem dX7_pairOf_3 : decode cX7_pairOf 3 = .ok (.imul, 1) := by decide +kernel
theorem dX7_pairOf_4 : decode cX7_pairOf 4 = .ok (.iload_n 1, 1) := by decide +kernel
theorem dX7_pairOf_5 : decode cX7_pairOf 5 = .ok (.iadd, 1) := by decide +kernel
theorem dX7_pairOf_6 : decode cX7_pairOf 6 = .ok (.ireturn, 1) := by decide +kernel
theorem dX7_isLate_0 : decode cX7_isLate 0 = .ok (.aload_n 0, 1) := by decide +kernel
theorem dX7_isLate_1 : decode cX7_isLate 1 = .ok (.getfield 65, 3) := by decide +kernel
theorem dX7_isLate_4 : decode cX7_isLate 4 = .ok (.iconst (-1), 1) := by decide +kernel
theorem dX7_isLate_5 : decode cX7_isLate 5 = .ok (.if_icmp .eq 18, 3) := by decide +kernel
theorem dX7_isLate_8 : decode cX7_isLate 8 = .ok (.aload_n 1, 1) := by decide +kernel
theorem dX7_isLate_9 : decode cX7_isLate 9 = .ok (.getfield 233, 3) := by decide +kernel
theorem dX7_isLate_12 : decode cX7_isLate 12 = .ok (.aload_n 0, 1) := by decide +kernel
theorem dX7_isLate_13 : decode cX7_isLate 13 = .ok (.getfield 65, 3) := by decide +kernel
theorem dX7_isLate_16 : decode cX7_isLate 16 = .ok (.if_icmp .lt 7, 3) := by decide +kernel
theorem dX7_isLate_19 : decode cX7_isLate 19 = .ok (.iconst 1, 1) := by decide +kernel
theorem dX7_isLate_20 : decode cX7_isLate 20 = .ok (.goto 4, 3) := by decide +kernel
theorem dX7_isLate_23 : decode cX7_isLate 23 = .ok (.iconst 0, 1) := by decide +kernel
theorem dX7_isLate_24 : decode cX7_isLate 24 = .ok (.ireturn, 1) := by decide +kernel
theorem dX7_isHidden_0 : decode cX7_isHidden 0 = .ok (.aload_n 0, 1) := by decide +kernel
theorem dX7_isHidden_1 : decode cX7_isHidden 1 = .ok (.aload_n 1, 1) := by decide +kernel
theorem dX7_isHidden_2 : decode cX7_isHidden 2 = .ok (.invokevirtual 335, 3) := by decide +kernel
theorem dX7_isHidden_5 : decode cX7_isHidden 5 = .ok (.ifCond .eq 29, 3) := by decide +kernel
theorem dX7_isHidden_8 : decode cX7_isHidden 8 = .ok (.aload_n 0, 1) := by decide +kernel
theorem dX7_isHidden_9 : decode cX7_isHidden 9 = .ok (.getfield 54, 3) := by decide +kernel
theorem dX7_isHidden_12 : decode cX7_isHidden 12 = .ok (.aload_n 1, 1) := by decide +kernel
theorem dX7_isHidden_13 : decode cX7_isHidden 13 = .ok (.getfield 205, 3) := by decide +kernel
theorem dX7_isHidden_16 : decode cX7_isHidden 16 = .ok (.aload_n 1, 1) := by decide +kernel
theorem dX7_isHidden_17 : decode cX7_isHidden 17 = .ok (.getfield 212, 3) := by decide +kernel
theorem dX7_isHidden_20 : decode cX7_isHidden 20 = .ok (.getfield 128, 3) := by decide +kernel
theorem dX7_isHidden_23 : decode cX7_isHidden 23 = .ok (.invokestatic 255, 3) := by decide +kernel
theorem dX7_isHidden_26 : decode cX7_isHidden 26 = .ok (.baload, 1) := by decide +kernel
theorem dX7_isHidden_27 : decode cX7_isHidden 27 = .ok (.ifCond .ne 7, 3) := by decide +kernel
theorem dX7_isHidden_30 : decode cX7_isHidden 30 = .ok (.iconst 1, 1) := by decide +kernel
theorem dX7_isHidden_31 : decode cX7_isHidden 31 = .ok (.goto 4, 3) := by decide +kernel
theorem dX7_isHidden_34 : decode cX7_isHidden 34 = .ok (.iconst 0, 1) := by decide +kernel
theorem dX7_isHidden_35 : decode cX7_isHidden 35 = .ok (.ireturn, 1) := by decide +kernel
theorem dX7_countVerdicts_0 : decode cX7_countVerdicts 0 = .ok (.aload_n 0, 1) := by decide +kernel
theorem dX7_countVerdicts_1 : decode cX7_countVerdicts 1 = .ok (.getfield 43, 3) := by decide +kernel
theorem dX7_countVerdicts_4 : decode cX7_countVerdicts 4 = .ok (.invokevirtual 270, 3) := by decide +kernel
theorem dX7_countVerdicts_7 : decode cX7_countVerdicts 7 = .ok (.iconst 0, 1) := by decide +kernel
theorem dX7_countVerdicts_8 : decode cX7_countVerdicts 8 = .ok (.istore_n 2, 1) := by decide +kernel
theorem dX7_countVerdicts_9 : decode cX7_countVerdicts 9 = .ok (.iload_n 2, 1) := by decide +kernel
theorem dX7_countVerdicts_10 : decode cX7_countVerdicts 10 = .ok (.aload_n 0, 1) := by decide +kernel
theorem dX7_countVerdicts_11 : decode cX7_countVerdicts 11 = .ok (.getfield 37, 3) := by decide +kernel
theorem dX7_countVerdicts_14 : decode cX7_countVerdicts 14 = .ok (.invokevirtual 107, 3) := by decide +kernel
theorem dX7_countVerdicts_17 : decode cX7_countVerdicts 17 = .ok (.if_icmp .ge 60, 3) := by decide +kernel
theorem dX7_countVerdicts_20 : decode cX7_countVerdicts 20 = .ok (.aload_n 0, 1) := by decide +kernel
theorem dX7_countVerdicts_21 : decode cX7_countVerdicts 21 = .ok (.getfield 37, 3) := by decide +kernel
theorem dX7_countVerdicts_24 : decode cX7_countVerdicts 24 = .ok (.iload_n 2, 1) := by decide +kernel
theorem dX7_countVerdicts_25 : decode cX7_countVerdicts 25 = .ok (.invokevirtual 182, 3) := by decide +kernel
theorem dX7_countVerdicts_28 : decode cX7_countVerdicts 28 = .ok (.checkcast 191, 3) := by decide +kernel
theorem dX7_countVerdicts_31 : decode cX7_countVerdicts 31 = .ok (.astore_n 3, 1) := by decide +kernel
theorem dX7_countVerdicts_32 : decode cX7_countVerdicts 32 = .ok (.aload_n 3, 1) := by decide +kernel
theorem dX7_countVerdicts_33 : decode cX7_countVerdicts 33 = .ok (.invokevirtual 201, 3) := by decide +kernel
theorem dX7_countVerdicts_36 : decode cX7_countVerdicts 36 = .ok (.ifCond .ne 35, 3) := by decide +kernel
theorem dX7_countVerdicts_39 : decode cX7_countVerdicts 39 = .ok (.iload_n 1, 1) := by decide +kernel
theorem dX7_countVerdicts_40 : decode cX7_countVerdicts 40 = .ok (.ifCond .eq 11, 3) := by decide +kernel
theorem dX7_countVerdicts_43 : decode cX7_countVerdicts 43 = .ok (.aload_n 0, 1) := by decide +kernel
theorem dX7_countVerdicts_44 : decode cX7_countVerdicts 44 = .ok (.aload_n 3, 1) := by decide +kernel
theorem dX7_countVerdicts_45 : decode cX7_countVerdicts 45 = .ok (.invokevirtual 338, 3) := by decide +kernel
theorem dX7_countVerdicts_48 : decode cX7_countVerdicts 48 = .ok (.ifCond .ne 23, 3) := by decide +kernel
theorem dX7_countVerdicts_51 : decode cX7_countVerdicts 51 = .ok (.aload_n 0, 1) := by decide +kernel
theorem dX7_countVerdicts_52 : decode cX7_countVerdicts 52 = .ok (.getfield 43, 3) := by decide +kernel
theorem dX7_countVerdicts_55 : decode cX7_countVerdicts 55 = .ok (.aload_n 3, 1) := by decide +kernel
theorem dX7_countVerdicts_56 : decode cX7_countVerdicts 56 = .ok (.aload_n 3, 1) := by decide +kernel
theorem dX7_countVerdicts_57 : decode cX7_countVerdicts 57 = .ok (.getfield 224, 3) := by decide +kernel
theorem dX7_countVerdicts_60 : decode cX7_countVerdicts 60 = .ok (.ifCond .ne 7, 3) := by decide +kernel
theorem dX7_countVerdicts_63 : decode cX7_countVerdicts 63 = .ok (.iconst 1, 1) := by decide +kernel
theorem dX7_countVerdicts_64 : decode cX7_countVerdicts 64 = .ok (.goto 4, 3) := by decide +kernel
theorem dX7_countVerdicts_67 : decode cX7_countVerdicts 67 = .ok (.iconst 0, 1) := by decide +kernel
theorem dX7_countVerdicts_68 : decode cX7_countVerdicts 68 = .ok (.invokevirtual 277, 3) := by decide +kernel
theorem dX7_countVerdicts_71 : decode cX7_countVerdicts 71 = .ok (.iinc 2 1, 3) := by decide +kernel
theorem dX7_countVerdicts_74 : decode cX7_countVerdicts 74 = .ok (.goto (-65), 3) := by decide +kernel
theorem dX7_countVerdicts_77 : decode cX7_countVerdicts 77 = .ok (.return_, 1) := by decide +kernel
theorem dX7_lowestHidden_0 : decode cX7_lowestHidden 0 = .ok (.iconst (-1), 1) := by decide +kernel
theorem dX7_lowestHidden_1 : decode cX7_lowestHidden 1 = .ok (.istore_n 2, 1) := by decide +kernel
theorem dX7_lowestHidden_2 : decode cX7_lowestHidden 2 = .ok (.iconst 0, 1) := by decide +kernel
theorem dX7_lowestHidden_3 : decode cX7_lowestHidden 3 = .ok (.istore_n 3, 1) := by decide +kernel
theorem dX7_lowestHidden_4 : decode cX7_lowestHidden 4 = .ok (.iload_n 3, 1) := by decide +kernel
theorem dX7_lowestHidden_5 : decode cX7_lowestHidden 5 = .ok (.aload_n 0, 1) := by decide +kernel
theorem dX7_lowestHidden_6 : decode cX7_lowestHidden 6 = .ok (.getfield 37, 3) := by decide +kernel
theorem dX7_lowestHidden_9 : decode cX7_lowestHidden 9 = .ok (.invokevirtual 107, 3) := by decide +kernel
theorem dX7_lowestHidden_12 : decode cX7_lowestHidden 12 = .ok (.if_icmp .ge 75, 3) := by decide +kernel
theorem dX7_lowestHidden_15 : decode cX7_lowestHidden 15 = .ok (.aload_n 0, 1) := by decide +kernel
theorem dX7_lowestHidden_16 : decode cX7_lowestHidden 16 = .ok (.getfield 37, 3) := by decide +kernel
theorem dX7_lowestHidden_19 : decode cX7_lowestHidden 19 = .ok (.iload_n 3, 1) := by decide +kernel
theorem dX7_lowestHidden_20 : decode cX7_lowestHidden 20 = .ok (.invokevirtual 182, 3) := by decide +kernel
theorem dX7_lowestHidden_23 : decode cX7_lowestHidden 23 = .ok (.checkcast 191, 3) := by decide +kernel
theorem dX7_lowestHidden_26 : decode cX7_lowestHidden 26 = .ok (.astore 4, 2) := by decide +kernel
theorem dX7_lowestHidden_28 : decode cX7_lowestHidden 28 = .ok (.aload 4, 2) := by decide +kernel
theorem dX7_lowestHidden_30 : decode cX7_lowestHidden 30 = .ok (.getfield 205, 3) := by decide +kernel
theorem dX7_lowestHidden_33 : decode cX7_lowestHidden 33 = .ok (.iload_n 1, 1) := by decide +kernel
theorem dX7_lowestHidden_34 : decode cX7_lowestHidden 34 = .ok (.if_icmp .ne 47, 3) := by decide +kernel
theorem dX7_lowestHidden_37 : decode cX7_lowestHidden 37 = .ok (.aload 4, 2) := by decide +kernel
theorem dX7_lowestHidden_39 : decode cX7_lowestHidden 39 = .ok (.invokevirtual 201, 3) := by decide +kernel
theorem dX7_lowestHidden_42 : decode cX7_lowestHidden 42 = .ok (.ifCond .ne 39, 3) := by decide +kernel
theorem dX7_lowestHidden_45 : decode cX7_lowestHidden 45 = .ok (.aload_n 0, 1) := by decide +kernel
theorem dX7_lowestHidden_46 : decode cX7_lowestHidden 46 = .ok (.aload 4, 2) := by decide +kernel
theorem dX7_lowestHidden_48 : decode cX7_lowestHidden 48 = .ok (.invokevirtual 338, 3) := by decide +kernel
theorem dX7_lowestHidden_51 : decode cX7_lowestHidden 51 = .ok (.ifCond .eq 30, 3) := by decide +kernel
theorem dX7_lowestHidden_54 : decode cX7_lowestHidden 54 = .ok (.aload 4, 2) := by decide +kernel
theorem dX7_lowestHidden_56 : decode cX7_lowestHidden 56 = .ok (.getfield 212, 3) := by decide +kernel
theorem dX7_lowestHidden_59 : decode cX7_lowestHidden 59 = .ok (.getfield 128, 3) := by decide +kernel
theorem dX7_lowestHidden_62 : decode cX7_lowestHidden 62 = .ok (.istore 5, 2) := by decide +kernel
theorem dX7_lowestHidden_64 : decode cX7_lowestHidden 64 = .ok (.iload_n 2, 1) := by decide +kernel
theorem dX7_lowestHidden_65 : decode cX7_lowestHidden 65 = .ok (.iconst (-1), 1) := by decide +kernel
theorem dX7_lowestHidden_66 : decode cX7_lowestHidden 66 = .ok (.if_icmp .ne 8, 3) := by decide +kernel
theorem dX7_lowestHidden_69 : decode cX7_lowestHidden 69 = .ok (.iload 5, 2) := by decide +kernel
theorem dX7_lowestHidden_71 : decode cX7_lowestHidden 71 = .ok (.goto 9, 3) := by decide +kernel
theorem dX7_lowestHidden_74 : decode cX7_lowestHidden 74 = .ok (.iload_n 2, 1) := by decide +kernel
theorem dX7_lowestHidden_75 : decode cX7_lowestHidden 75 = .ok (.iload 5, 2) := by decide +kernel
theorem dX7_lowestHidden_77 : decode cX7_lowestHidden 77 = .ok (.invokestatic 332, 3) := by decide +kernel
theorem dX7_lowestHidden_80 : decode cX7_lowestHidden 80 = .ok (.istore_n 2, 1) := by decide +kernel
theorem dX7_lowestHidden_81 : decode cX7_lowestHidden 81 = .ok (.iinc 3 1, 3) := by decide +kernel
theorem dX7_lowestHidden_84 : decode cX7_lowestHidden 84 = .ok (.goto (-80), 3) := by decide +kernel
theorem dX7_lowestHidden_87 : decode cX7_lowestHidden 87 = .ok (.iload_n 2, 1) := by decide +kernel
theorem dX7_lowestHidden_88 : decode cX7_lowestHidden 88 = .ok (.ireturn, 1) := by decide +kernel
end
section
theorem dX8_init_0 : decode cX8_init 0 = .ok (.aload_n 0, 1) := by decide +kernel
theorem dX8_init_1 : decode cX8_init 1 = .ok (.invokespecial 1, 3) := by decide +kernel
theorem dX8_init_4 : decode cX8_init 4 = .ok (.aload_n 0, 1) := by decide +kernel
theorem dX8_init_5 : decode cX8_init 5 = .ok (.bipush 67, 2) := by decide +kernel
theorem dX8_init_7 : decode cX8_init 7 = .ok (.newarray .int, 2) := by decide +kernel
theorem dX8_init_9 : decode cX8_init 9 = .ok (.putfield 7, 3) := by decide +kernel
theorem dX8_init_12 : decode cX8_init 12 = .ok (.aload_n 0, 1) := by decide +kernel
theorem dX8_init_13 : decode cX8_init 13 = .ok (.sipush 1072, 3) := by decide +kernel
theorem dX8_init_16 : decode cX8_init 16 = .ok (.newarray .int, 2) := by decide +kernel
theorem dX8_init_18 : decode cX8_init 18 = .ok (.putfield 13, 3) := by decide +kernel
theorem dX8_init_21 : decode cX8_init 21 = .ok (.aload_n 0, 1) := by decide +kernel
theorem dX8_init_22 : decode cX8_init 22 = .ok (.sipush 1072, 3) := by decide +kernel
theorem dX8_init_25 : decode cX8_init 25 = .ok (.newarray .int, 2) := by decide +kernel
theorem dX8_init_27 : decode cX8_init 27 = .ok (.putfield 16, 3) := by decide +kernel
theorem dX8_init_30 : decode cX8_init 30 = .ok (.aload_n 0, 1) := by decide +kernel
theorem dX8_init_31 : decode cX8_init 31 = .ok (.bipush 73, 2) := by decide +kernel
theorem dX8_init_33 : decode cX8_init 33 = .ok (.newarray .int, 2) := by decide +kernel
theorem dX8_init_35 : decode cX8_init 35 = .ok (.putfield 19, 3) := by decide +kernel
theorem dX8_init_38 : decode cX8_init 38 = .ok (.aload_n 0, 1) := by decide +kernel
theorem dX8_init_39 : decode cX8_init 39 = .ok (.sipush 292, 3) := by decide +kernel
theorem dX8_init_42 : decode cX8_init 42 = .ok (.newarray .int, 2) := by decide +kernel
theorem dX8_init_44 : decode cX8_init 44 = .ok (.putfield 22, 3) := by decide +kernel
theorem dX8_init_47 : decode cX8_init 47 = .ok (.aload_n 0, 1) := by decide +kernel
theorem dX8_init_48 : decode cX8_init 48 = .ok (.bipush 6, 2) := by decide +kernel
theorem dX8_init_50 : decode cX8_init 50 = .ok (.newarray .int, 2) := by decide +kernel
theorem dX8_init_52 : decode cX8_init 52 = .ok (.putfield 25, 3) := by decide +kernel
theorem dX8_init_55 : decode cX8_init 55 = .ok (.aload_n 0, 1) := by decide +kernel
theorem dX8_init_56 : decode cX8_init 56 = .ok (.bipush 6, 2) := by decide +kernel
theorem dX8_init_58 : decode cX8_init 58 = .ok (.newarray .int, 2) := by decide +kernel
theorem dX8_init_60 : decode cX8_init 60 = .ok (.putfield 28, 3) := by decide +kernel
theorem dX8_init_63 : decode cX8_init 63 = .ok (.aload_n 0, 1) := by decide +kernel
theorem dX8_init_64 : decode cX8_init 64 = .ok (.bipush 6, 2) := by decide +kernel
theorem dX8_init_66 : decode cX8_init 66 = .ok (.newarray .int, 2) := by decide +kernel
theorem dX8_init_68 : decode cX8_init 68 = .ok (.putfield 31, 3) := by decide +kernel
theorem dX8_init_71 : decode cX8_init 71 = .ok (.aload_n 0, 1) := by decide +kernel
theorem dX8_init_72 : decode cX8_init 72 = .ok (.bipush 6, 2) := by decide +kernel
theorem dX8_init_74 : decode cX8_init 74 = .ok (.newarray .int, 2) := by decide +kernel
theorem dX8_init_76 : decode cX8_init 76 = .ok (.putfield 34, 3) := by decide +kernel
theorem dX8_init_79 : decode cX8_init 79 = .ok (.aload_n 0, 1) := by decide +kernel
theorem dX8_init_80 : decode cX8_init 80 = .ok (.bipush 72, 2) := by decide +kernel
theorem dX8_init_82 : decode cX8_init 82 = .ok (.newarray .int, 2) := by decide +kernel
theorem dX8_init_84 : decode cX8_init 84 = .ok (.putfield 37, 3) := by decide +kernel
theorem dX8_init_87 : decode cX8_init 87 = .ok (.aload_n 0, 1) := by decide +kernel
theorem dX8_init_88 : decode cX8_init 88 = .ok (.bipush 24, 2) := by decide +kernel
theorem dX8_init_90 : decode cX8_init 90 = .ok (.newarray .int, 2) := by decide +kernel
theorem dX8_init_92 : decode cX8_init 92 = .ok (.putfield 40, 3) := by decide +kernel
theorem dX8_init_95 : decode cX8_init 95 = .ok (.aload_n 0, 1) := by decide +kernel
theorem dX8_init_96 : decode cX8_init 96 = .ok (.bipush 60, 2) := by decide +kernel
theorem dX8_init_98 : decode cX8_init 98 = .ok (.newarray .int, 2) := by decide +kernel
theorem dX8_init_100 : decode cX8_init 100 = .ok (.putfield 43, 3) := by decide +kernel
theorem dX8_init_103 : decode cX8_init 103 = .ok (.aload_n 0, 1) := by decide +kernel
theorem dX8_init_104 : decode cX8_init 104 = .ok (.bipush 60, 2) := by decide +kernel
theorem dX8_init_106 : decode cX8_init 106 = .ok (.newarray .int, 2) := by decide +kernel
theorem dX8_init_108 : decode cX8_init 108 = .ok (.putfield 46, 3) := by decide +kernel
theorem dX8_init_111 : decode cX8_init 111 = .ok (.aload_n 0, 1) := by decide +kernel
theorem dX8_init_112 : decode cX8_init 112 = .ok (.bipush 60, 2) := by decide +kernel
theorem dX8_init_114 : decode cX8_init 114 = .ok (.newarray .int, 2) := by decide +kernel
theorem dX8_init_116 : decode cX8_init 116 = .ok (.putfield 49, 3) := by decide +kernel
theorem dX8_init_119 : decode cX8_init 119 = .ok (.aload_n 0, 1) := by decide +kernel
theorem dX8_init_120 : decode cX8_init 120 = .ok (.bipush 60, 2) := by decide +kernel
theorem dX8_init_122 : decode cX8_init 122 = .ok (.newarray .int, 2) := by decide +kernel
theorem dX8_init_124 : decode cX8_init 124 = .ok (.putfield 52, 3) := by decide +kernel
theorem dX8_init_127 : decode cX8_init 127 = .ok (.aload_n 0, 1) := by decide +kernel
theorem dX8_init_128 : decode cX8_init 128 = .ok (.bipush 60, 2) := by decide +kernel
theorem dX8_init_130 : decode cX8_init 130 = .ok (.newarray .int, 2) := by decide +kernel
theorem dX8_init_132 : decode cX8_init 132 = .ok (.putfield 55, 3) := by decide +kernel
theorem dX8_init_135 : decode cX8_init 135 = .ok (.aload_n 0, 1) := by decide +kernel
theorem dX8_init_136 : decode cX8_init 136 = .ok (.bipush 60, 2) := by decide +kernel
theorem dX8_init_138 : decode cX8_init 138 = .ok (.newarray .int, 2) := by decide +kernel
theorem dX8_init_140 : decode cX8_init 140 = .ok (.putfield 58, 3) := by decide +kernel
theorem dX8_init_143 : decode cX8_init 143 = .ok (.aload_n 0, 1) := by decide +kernel
theorem dX8_init_144 : decode cX8_init 144 = .ok (.bipush 60, 2) := by decide +kernel
theorem dX8_init_146 : decode cX8_init 146 = .ok (.newarray .int, 2) := by decide +kernel
theorem dX8_init_148 : decode cX8_init 148 = .ok (.putfield 61, 3) := by decide +kernel
theorem dX8_init_151 : decode cX8_init 151 = .ok (.aload_n 0, 1) := by decide +kernel
theorem dX8_init_152 : decode cX8_init 152 = .ok (.bipush 8, 2) := by decide +kernel
theorem dX8_init_154 : decode cX8_init 154 = .ok (.newarray .int, 2) := by decide +kernel
theorem dX8_init_156 : decode cX8_init 156 = .ok (.putfield 64, 3) := by decide +kernel
theorem dX8_init_159 : decode cX8_init 159 = .ok (.aload_n 0, 1) := by decide +kernel
theorem dX8_init_160 : decode cX8_init 160 = .ok (.bipush 8, 2) := by decide +kernel
theorem dX8_init_162 : decode cX8_init 162 = .ok (.newarray .int, 2) := by decide +kernel
theorem dX8_init_164 : decode cX8_init 164 = .ok (.putfield 67, 3) := by decide +kernel
theorem dX8_init_167 : decode cX8_init 167 = .ok (.aload_n 0, 1) := by decide +kernel
theorem dX8_init_168 : decode cX8_init 168 = .ok (.iconst (-1), 1) := by decide +kernel
theorem dX8_init_169 : decode cX8_init 169 = .ok (.putfield 70, 3) := by decide +kernel
theorem dX8_init_172 : decode cX8_init 172 = .ok (.aload_n 0, 1) := by decide +kernel
theorem dX8_init_173 : decode cX8_init 173 = .ok (.bipush 48, 2) := by decide +kernel
theorem dX8_init_175 : decode cX8_init 175 = .ok (.newarray .boolean, 2) := by decide +kernel
theorem dX8_init_177 : decode cX8_init 177 = .ok (.putfield 74, 3) := by decide +kernel
theorem dX8_init_180 : decode cX8_init 180 = .ok (.aload_n 0, 1) := by decide +kernel
theorem dX8_init_181 : decode cX8_init 181 = .ok (.bipush 8, 2) := by decide +kernel
theorem dX8_init_183 : decode cX8_init 183 = .ok (.newarray .int, 2) := by decide +kernel
theorem dX8_init_185 : decode cX8_init 185 = .ok (.putfield 78, 3) := by decide +kernel
theorem dX8_init_188 : decode cX8_init 188 = .ok (.aload_n 0, 1) := by decide +kernel
theorem dX8_init_189 : decode cX8_init 189 = .ok (.bipush 8, 2) := by decide +kernel
theorem dX8_init_191 : decode cX8_init 191 = .ok (.newarray .int, 2) := by decide +kernel
theorem dX8_init_193 : decode cX8_init 193 = .ok (.putfield 81, 3) := by decide +kernel
theorem dX8_init_196 : decode cX8_init 196 = .ok (.aload_n 0, 1) := by decide +kernel
theorem dX8_init_197 : decode cX8_init 197 = .ok (.bipush 8, 2) := by decide +kernel
theorem dX8_init_199 : decode cX8_init 199 = .ok (.newarray .int, 2) := by decide +kernel
theorem dX8_init_201 : decode cX8_init 201 = .ok (.putfield 84, 3) := by decide +kernel
theorem dX8_init_204 : decode cX8_init 204 = .ok (.aload_n 0, 1) := by decide +kernel
theorem dX8_init_205 : decode cX8_init 205 = .ok (.bipush 60, 2) := by decide +kernel
theorem dX8_init_207 : decode cX8_init 207 = .ok (.newarray .int, 2) := by decide +kernel
theorem dX8_init_209 : decode cX8_init 209 = .ok (.putfield 87, 3) := by decide +kernel
theorem dX8_init_212 : decode cX8_init 212 = .ok (.aload_n 0, 1) := by decide +kernel
theorem dX8_init_213 : decode cX8_init 213 = .ok (.bipush 8, 2) := by decide +kernel
theorem dX8_init_215 : decode cX8_init 215 = .ok (.newarray .int, 2) := by decide +kernel
theorem dX8_init_217 : decode cX8_init 217 = .ok (.putfield 90, 3) := by decide +kernel
theorem dX8_init_220 : decode cX8_init 220 = .ok (.aload_n 0, 1) := by decide +kernel
theorem dX8_init_221 : decode cX8_init 221 = .ok (.bipush 8, 2) := by decide +kernel
theorem dX8_init_223 : decode cX8_init 223 = .ok (.newarray .int, 2) := by decide +kernel
theorem dX8_init_225 : decode cX8_init 225 = .ok (.putfield 93, 3) := by decide +kernel
theorem dX8_init_228 : decode cX8_init 228 = .ok (.aload_n 0, 1) := by decide +kernel
theorem dX8_init_229 : decode cX8_init 229 = .ok (.bipush 8, 2) := by decide +kernel
theorem dX8_init_231 : decode cX8_init 231 = .ok (.newarray .int, 2) := by decide +kernel
theorem dX8_init_233 : decode cX8_init 233 = .ok (.putfield 96, 3) := by decide +kernel
theorem dX8_init_236 : decode cX8_init 236 = .ok (.aload_n 0, 1) := by decide +kernel
theorem dX8_init_237 : decode cX8_init 237 = .ok (.bipush 17, 2) := by decide +kernel
theorem dX8_init_239 : decode cX8_init 239 = .ok (.newarray .int, 2) := by decide +kernel
theorem dX8_init_241 : decode cX8_init 241 = .ok (.putfield 99, 3) := by decide +kernel
theorem dX8_init_244 : decode cX8_init 244 = .ok (.iconst 0, 1) := by decide +kernel
theorem dX8_init_245 : decode cX8_init 245 = .ok (.istore_n 1, 1) := by decide +kernel
theorem dX8_init_246 : decode cX8_init 246 = .ok (.iload_n 1, 1) := by decide +kernel
theorem dX8_init_247 : decode cX8_init 247 = .ok (.bipush 24, 2) := by decide +kernel
theorem dX8_init_249 : decode cX8_init 249 = .ok (.if_icmp .ge 17, 3) := by decide +kernel
theorem dX8_init_252 : decode cX8_init 252 = .ok (.aload_n 0, 1) := by decide +kernel
theorem dX8_init_253 : decode cX8_init 253 = .ok (.getfield 40, 3) := by decide +kernel
theorem dX8_init_256 : decode cX8_init 256 = .ok (.iload_n 1, 1) := by decide +kernel
theorem dX8_init_257 : decode cX8_init 257 = .ok (.bipush 25, 2) := by decide +kernel
theorem dX8_init_259 : decode cX8_init 259 = .ok (.iastore, 1) := by decide +kernel
theorem dX8_init_260 : decode cX8_init 260 = .ok (.iinc 1 1, 3) := by decide +kernel
theorem dX8_init_263 : decode cX8_init 263 = .ok (.goto (-17), 3) := by decide +kernel
theorem dX8_init_266 : decode cX8_init 266 = .ok (.return_, 1) := by decide +kernel
theorem dX8_thrown_0 : decode cX8_thrown 0 = .ok (.aload_n 0, 1) := by decide +kernel
theorem dX8_thrown_1 : decode cX8_thrown 1 = .ok (.getfield 102, 3) := by decide +kernel
theorem dX8_thrown_4 : decode cX8_thrown 4 = .ok (.ireturn, 1) := by decide +kernel
theorem dX8_isIn_0 : decode cX8_isIn 0 = .ok (.iload_n 0, 1) := by decide +kernel
theorem dX8_isIn_1 : decode cX8_isIn 1 = .ok (.iload_n 1, 1) := by decide +kernel
theorem dX8_isIn_2 : decode cX8_isIn 2 = .ok (.if_icmp .lt 12, 3) := by decide +kernel
theorem dX8_isIn_5 : decode cX8_isIn 5 = .ok (.iload_n 0, 1) := by decide +kernel
theorem dX8_isIn_6 : decode cX8_isIn 6 = .ok (.iload_n 2, 1) := by decide +kernel
theorem dX8_isIn_7 : decode cX8_isIn 7 = .ok (.if_icmp .gt 7, 3) := by decide +kernel
theorem dX8_isIn_10 : decode cX8_isIn 10 = .ok (.iconst 1, 1) := by decide +kernel
theorem dX8_isIn_11 : decode cX8_isIn 11 = .ok (.goto 4, 3) := by decide +kernel
theorem dX8_isIn_14 : decode cX8_isIn 14 = .ok (.iconst 0, 1) := by decide +kernel
theorem dX8_isIn_15 : decode cX8_isIn 15 = .ok (.ireturn, 1) := by decide +kernel
theorem dX8_isProblem_0 : decode cX8_isProblem 0 = .ok (.iload_n 1, 1) := by decide +kernel
theorem dX8_isProblem_1 : decode cX8_isProblem 1 = .ok (.iconst 0, 1) := by decide +kernel
theorem dX8_isProblem_2 : decode cX8_isProblem 2 = .ok (.aload_n 0, 1) := by decide +kernel
theorem dX8_isProblem_3 : decode cX8_isProblem 3 = .ok (.getfield 105, 3) := by decide +kernel
theorem dX8_isProblem_6 : decode cX8_isProblem 6 = .ok (.iconst 1, 1) := by decide +kernel
theorem dX8_isProblem_7 : decode cX8_isProblem 7 = .ok (.isub, 1) := by decide +kernel
theorem dX8_isProblem_8 : decode cX8_isProblem 8 = .ok (.invokestatic 108, 3) := by decide +kernel
theorem dX8_isProblem_11 : decode cX8_isProblem 11 = .ok (.ireturn, 1) := by decide +kernel
theorem dX8_isEntry_0 : decode cX8_isEntry 0 = .ok (.iload_n 1, 1) := by decide +kernel
theorem dX8_isEntry_1 : decode cX8_isEntry 1 = .ok (.iconst 0, 1) := by decide +kernel
theorem dX8_isEntry_2 : decode cX8_isEntry 2 = .ok (.aload_n 0, 1) := by decide +kernel
theorem dX8_isEntry_3 : decode cX8_isEntry 3 = .ok (.getfield 112, 3) := by decide +kernel
theorem dX8_isEntry_6 : decode cX8_isEntry 6 = .ok (.iconst 1, 1) := by decide +kernel
theorem dX8_isEntry_7 : decode cX8_isEntry 7 = .ok (.isub, 1) := by decide +kernel
theorem dX8_isEntry_8 : decode cX8_isEntry 8 = .ok (.invokestatic 108, 3) := by decide +kernel
theorem dX8_isEntry_11 : decode cX8_isEntry 11 = .ok (.ireturn, 1) := by decide +kernel
theorem dX8_isTeam_0 : decode cX8_isTeam 0 = .ok (.iload_n 0, 1) := by decide +kernel
theorem dX8_isTeam_1 : decode cX8_isTeam 1 = .ok (.iconst 0, 1) := by decide +kernel
theorem dX8_isTeam_2 : decode cX8_isTeam 2 = .ok (.bipush 7, 2) := by decide +kernel
theorem dX8_isTeam_4 : decode cX8_isTeam 4 = .ok (.invokestatic 108, 3) := by decide +kernel
theorem dX8_isTeam_7 : decode cX8_isTeam 7 = .ok (.ireturn, 1) := by decide +kernel
theorem dX8_isGroup_0 : decode cX8_isGroup 0 = .ok (.iload_n 0, 1) := by decide +kernel
theorem dX8_isGroup_1 : decode cX8_isGroup 1 = .ok (.iconst 0, 1) := by decide +kernel
theorem dX8_isGroup_2 : decode cX8_isGroup 2 = .ok (.iconst 3, 1) := by decide +kernel
theorem dX8_isGroup_3 : decode cX8_isGroup 3 = .ok (.invokestatic 108, 3) := by decide +kernel
theorem dX8_isGroup_6 : decode cX8_isGroup 6 = .ok (.ireturn, 1) := by decide +kernel
theorem dX8_needs_0 : decode cX8_needs 0 = .ok (.iload_n 0, 1) := by decide +kernel
theorem dX8_needs_1 : decode cX8_needs 1 = .ok (.iconst 2, 1) := by decide +kernel
theorem dX8_needs_2 : decode cX8_needs 2 = .ok (.if_icmp .eq 19, 3) := by decide +kernel
theorem dX8_needs_5 : decode cX8_needs 5 = .ok (.iload_n 0, 1) := by decide +kernel
theorem dX8_needs_6 : decode cX8_needs 6 = .ok (.iconst 3, 1) := by decide +kernel
theorem dX8_needs_7 : decode cX8_needs 7 = .ok (.if_icmp .eq 14, 3) := by decide +kernel
theorem dX8_needs_10 : decode cX8_needs 10 = .ok (.iload_n 0, 1) := by decide +kernel
theorem dX8_needs_11 : decode cX8_needs 11 = .ok (.iconst 4, 1) := by decide +kernel
theorem dX8_needs_12 : decode cX8_needs 12 = .ok (.if_icmp .eq 9, 3) := by decide +kernel
theorem dX8_needs_15 : decode cX8_needs 15 = .ok (.iload_n 0, 1) := by decide +kernel
theorem dX8_needs_16 : decode cX8_needs 16 = .ok (.bipush 6, 2) := by decide +kernel
theorem dX8_needs_18 : decode cX8_needs 18 = .ok (.if_icmp .ne 7, 3) := by decide +kernel
theorem dX8_needs_21 : decode cX8_needs 21 = .ok (.iconst 2, 1) := by decide +kernel
theorem dX8_needs_22 : decode cX8_needs 22 = .ok (.goto 25, 3) := by decide +kernel
theorem dX8_needs_25 : decode cX8_needs 25 = .ok (.iload_n 0, 1) := by decide +kernel
theorem dX8_needs_26 : decode cX8_needs 26 = .ok (.iconst 5, 1) := by decide +kernel
theorem dX8_needs_27 : decode cX8_needs 27 = .ok (.if_icmp .eq 15, 3) := by decide +kernel
theorem dX8_needs_30 : decode cX8_needs 30 = .ok (.iload_n 0, 1) := by decide +kernel
theorem dX8_needs_31 : decode cX8_needs 31 = .ok (.bipush 7, 2) := by decide +kernel
theorem dX8_needs_33 : decode cX8_needs 33 = .ok (.if_icmp .eq 9, 3) := by decide +kernel
theorem dX8_needs_36 : decode cX8_needs 36 = .ok (.iload_n 0, 1) := by decide +kernel
theorem dX8_needs_37 : decode cX8_needs 37 = .ok (.bipush 9, 2) := by decide +kernel
theorem dX8_needs_39 : decode cX8_needs 39 = .ok (.if_icmp .ne 7, 3) := by decide +kernel
theorem dX8_needs_42 : decode cX8_needs 42 = .ok (.iconst 1, 1) := by decide +kernel
theorem dX8_needs_43 : decode cX8_needs 43 = .ok (.goto 4, 3) := by decide +kernel
theorem dX8_needs_46 : decode cX8_needs 46 = .ok (.iconst 0, 1) := by decide +kernel
theorem dX8_needs_47 : decode cX8_needs 47 = .ok (.ireturn, 1) := by decide +kernel
theorem dX8_pushes_0 : decode cX8_pushes 0 = .ok (.iload_n 1, 1) := by decide +kernel
theorem dX8_pushes_1 : decode cX8_pushes 1 = .ok (.ldc 115, 2) := by decide +kernel
theorem dX8_pushes_3 : decode cX8_pushes 3 = .ok (.ldc 116, 2) := by decide +kernel
theorem dX8_pushes_5 : decode cX8_pushes 5 = .ok (.invokestatic 108, 3) := by decide +kernel
theorem dX8_pushes_8 : decode cX8_pushes 8 = .ok (.ifCond .ne 11, 3) := by decide +kernel
theorem dX8_pushes_11 : decode cX8_pushes 11 = .ok (.aload_n 0, 1) := by decide +kernel
theorem dX8_pushes_12 : decode cX8_pushes 12 = .ok (.iconst 4, 1) := by decide +kernel
theorem dX8_pushes_13 : decode cX8_pushes 13 = .ok (.putfield 117, 3) := by decide +kernel
theorem dX8_pushes_16 : decode cX8_pushes 16 = .ok (.goto 40, 3) := by decide +kernel
theorem dX8_pushes_19 : decode cX8_pushes 19 = .ok (.aload_n 0, 1) := by decide +kernel
theorem dX8_pushes_20 : decode cX8_pushes 20 = .ok (.getfield 120, 3) := by decide +kernel
theorem dX8_pushes_23 : decode cX8_pushes 23 = .ok (.bipush 8, 2) := by decide +kernel
theorem dX8_pushes_25 : decode cX8_pushes 25 = .ok (.if_icmp .ne 11, 3) := by decide +kernel
theorem dX8_pushes_28 : decode cX8_pushes 28 = .ok (.aload_n 0, 1) := by decide +kernel
theorem dX8_pushes_29 : decode cX8_pushes 29 = .ok (.iconst 3, 1) := by decide +kernel
theorem dX8_pushes_30 : decode cX8_pushes 30 = .ok (.putfield 117, 3) := by decide +kernel
theorem dX8_pushes_33 : decode cX8_pushes 33 = .ok (.goto 23, 3) := by decide +kernel
theorem dX8_pushes_36 : decode cX8_pushes 36 = .ok (.aload_n 0, 1) := by decide +kernel
theorem dX8_pushes_37 : decode cX8_pushes 37 = .ok (.getfield 81, 3) := by decide +kernel
theorem dX8_pushes_40 : decode cX8_pushes 40 = .ok (.aload_n 0, 1) := by decide +kernel
theorem dX8_pushes_41 : decode cX8_pushes 41 = .ok (.getfield 120, 3) := by decide +kernel
theorem dX8_pushes_44 : decode cX8_pushes 44 = .ok (.iload_n 1, 1) := by decide +kernel
theorem dX8_pushes_45 : decode cX8_pushes 45 = .ok (.iastore, 1) := by decide +kernel
theorem dX8_pushes_46 : decode cX8_pushes 46 = .ok (.aload_n 0, 1) := by decide +kernel
theorem dX8_pushes_47 : decode cX8_pushes 47 = .ok (.dup, 1) := by decide +kernel
theorem dX8_pushes_48 : decode cX8_pushes 48 = .ok (.getfield 120, 3) := by decide +kernel
theorem dX8_pushes_51 : decode cX8_pushes 51 = .ok (.iconst 1, 1) := by decide +kernel
theorem dX8_pushes_52 : decode cX8_pushes 52 = .ok (.iadd, 1) := by decide +kernel
theorem dX8_pushes_53 : decode cX8_pushes 53 = .ok (.putfield 120, 3) := by decide +kernel
theorem dX8_pushes_56 : decode cX8_pushes 56 = .ok (.return_, 1) := by decide +kernel
theorem dX8_runs_0 : decode cX8_runs 0 = .ok (.aload_n 0, 1) := by decide +kernel
theorem dX8_runs_1 : decode cX8_runs 1 = .ok (.iconst 0, 1) := by decide +kernel
theorem dX8_runs_2 : decode cX8_runs 2 = .ok (.putfield 117, 3) := by decide +kernel
theorem dX8_runs_5 : decode cX8_runs 5 = .ok (.aload_n 0, 1) := by decide +kernel
theorem dX8_runs_6 : decode cX8_runs 6 = .ok (.iconst 0, 1) := by decide +kernel
theorem dX8_runs_7 : decode cX8_runs 7 = .ok (.putfield 123, 3) := by decide +kernel
theorem dX8_runs_10 : decode cX8_runs 10 = .ok (.aload_n 0, 1) := by decide +kernel
theorem dX8_runs_11 : decode cX8_runs 11 = .ok (.iconst 0, 1) := by decide +kernel
theorem dX8_runs_12 : decode cX8_runs 12 = .ok (.putfield 126, 3) := by decide +kernel
theorem dX8_runs_15 : decode cX8_runs 15 = .ok (.aload_n 0, 1) := by decide +kernel
theorem dX8_runs_16 : decode cX8_runs 16 = .ok (.iconst 0, 1) := by decide +kernel
theorem dX8_runs_17 : decode cX8_runs 17 = .ok (.putfield 120, 3) := by decide +kernel
theorem dX8_runs_20 : decode cX8_runs 20 = .ok (.iconst 0, 1) := by decide +kernel
theorem dX8_runs_21 : decode cX8_runs 21 = .ok (.istore 4, 2) := by decide +kernel
theorem dX8_runs_23 : decode cX8_runs 23 = .ok (.iconst 0, 1) := by decide +kernel
theorem dX8_runs_24 : decode cX8_runs 24 = .ok (.istore 5, 2) := by decide +kernel
theorem dX8_runs_26 : decode cX8_runs 26 = .ok (.aload_n 0, 1) := by decide +kernel
theorem dX8_runs_27 : decode cX8_runs 27 = .ok (.getfield 117, 3) := by decide +kernel
theorem dX8_runs_30 : decode cX8_runs 30 = .ok (.ifCond .ne 470, 3) := by decide +kernel
theorem dX8_runs_33 : decode cX8_runs 33 = .ok (.iload 4, 2) := by decide +kernel
theorem dX8_runs_35 : decode cX8_runs 35 = .ok (.aload_n 0, 1) := by decide +kernel
theorem dX8_runs_36 : decode cX8_runs 36 = .ok (.getfield 7, 3) := by decide +kernel
theorem dX8_runs_39 : decode cX8_runs 39 = .ok (.iload_n 1, 1) := by decide +kernel
theorem dX8_runs_40 : decode cX8_runs 40 = .ok (.iaload, 1) := by decide +kernel
theorem dX8_runs_41 : decode cX8_runs 41 = .ok (.if_icmp .ge 459, 3) := by decide +kernel
theorem dX8_runs_44 : decode cX8_runs 44 = .ok (.aload_n 0, 1) := by decide +kernel
theorem dX8_runs_45 : decode cX8_runs 45 = .ok (.getfield 123, 3) := by decide +kernel
theorem dX8_runs_48 : decode cX8_runs 48 = .ok (.iload_n 3, 1) := by decide +kernel
theorem dX8_runs_49 : decode cX8_runs 49 = .ok (.if_icmp .ne 9, 3) := by decide +kernel
theorem dX8_runs_52 : decode cX8_runs 52 = .ok (.aload_n 0, 1) := by decide +kernel
theorem dX8_runs_53 : decode cX8_runs 53 = .ok (.iconst 2, 1) := by decide +kernel
theorem dX8_runs_54 : decode cX8_runs 54 = .ok (.putfield 117, 3) := by decide +kernel
theorem dX8_runs_57 : decode cX8_runs 57 = .ok (.return_, 1) := by decide +kernel
theorem dX8_runs_58 : decode cX8_runs 58 = .ok (.aload_n 0, 1) := by decide +kernel
theorem dX8_runs_59 : decode cX8_runs 59 = .ok (.dup, 1) := by decide +kernel
theorem dX8_runs_60 : decode cX8_runs 60 = .ok (.getfield 123, 3) := by decide +kernel
theorem dX8_runs_63 : decode cX8_runs 63 = .ok (.iconst 1, 1) := by decide +kernel
theorem dX8_runs_64 : decode cX8_runs 64 = .ok (.iadd, 1) := by decide +kernel
theorem dX8_runs_65 : decode cX8_runs 65 = .ok (.putfield 123, 3) := by decide +kernel
theorem dX8_runs_68 : decode cX8_runs 68 = .ok (.aload_n 0, 1) := by decide +kernel
theorem dX8_runs_69 : decode cX8_runs 69 = .ok (.getfield 13, 3) := by decide +kernel
theorem dX8_runs_72 : decode cX8_runs 72 = .ok (.bipush 16, 2) := by decide +kernel
theorem dX8_runs_74 : decode cX8_runs 74 = .ok (.iload_n 1, 1) := by decide +kernel
theorem dX8_runs_75 : decode cX8_runs 75 = .ok (.imul, 1) := by decide +kernel
theorem dX8_runs_76 : decode cX8_runs 76 = .ok (.iload 4, 2) := by decide +kernel
theorem dX8_runs_78 : decode cX8_runs 78 = .ok (.iadd, 1) := by decide +kernel
theorem dX8_runs_79 : decode cX8_runs 79 = .ok (.iaload, 1) := by decide +kernel
theorem dX8_runs_80 : decode cX8_runs 80 = .ok (.istore 6, 2) := by decide +kernel
theorem dX8_runs_82 : decode cX8_runs 82 = .ok (.aload_n 0, 1) := by decide +kernel
theorem dX8_runs_83 : decode cX8_runs 83 = .ok (.getfield 16, 3) := by decide +kernel
theorem dX8_runs_86 : decode cX8_runs 86 = .ok (.bipush 16, 2) := by decide +kernel
theorem dX8_runs_88 : decode cX8_runs 88 = .ok (.iload_n 1, 1) := by decide +kernel
theorem dX8_runs_89 : decode cX8_runs 89 = .ok (.imul, 1) := by decide +kernel
theorem dX8_runs_90 : decode cX8_runs 90 = .ok (.iload 4, 2) := by decide +kernel
theorem dX8_runs_92 : decode cX8_runs 92 = .ok (.iadd, 1) := by decide +kernel
theorem dX8_runs_93 : decode cX8_runs 93 = .ok (.iaload, 1) := by decide +kernel
theorem dX8_runs_94 : decode cX8_runs 94 = .ok (.istore 7, 2) := by decide +kernel
theorem dX8_runs_96 : decode cX8_runs 96 = .ok (.iinc 4 1, 3) := by decide +kernel
theorem dX8_runs_99 : decode cX8_runs 99 = .ok (.aload_n 0, 1) := by decide +kernel
theorem dX8_runs_100 : decode cX8_runs 100 = .ok (.getfield 120, 3) := by decide +kernel
theorem dX8_runs_103 : decode cX8_runs 103 = .ok (.iload 6, 2) := by decide +kernel
theorem dX8_runs_105 : decode cX8_runs 105 = .ok (.invokestatic 129, 3) := by decide +kernel
theorem dX8_runs_108 : decode cX8_runs 108 = .ok (.if_icmp .lt 19, 3) := by decide +kernel
theorem dX8_runs_111 : decode cX8_runs 111 = .ok (.iload 6, 2) := by decide +kernel
theorem dX8_runs_113 : decode cX8_runs 113 = .ok (.ifCond .ne 20, 3) := by decide +kernel
theorem dX8_runs_116 : decode cX8_runs 116 = .ok (.iload 5, 2) := by decide +kernel
theorem dX8_runs_118 : decode cX8_runs 118 = .ok (.aload_n 0, 1) := by decide +kernel
theorem dX8_runs_119 : decode cX8_runs 119 = .ok (.getfield 19, 3) := by decide +kernel
theorem dX8_runs_122 : decode cX8_runs 122 = .ok (.iload_n 2, 1) := by decide +kernel
theorem dX8_runs_123 : decode cX8_runs 123 = .ok (.iaload, 1) := by decide +kernel
theorem dX8_runs_124 : decode cX8_runs 124 = .ok (.if_icmp .ne 9, 3) := by decide +kernel
theorem dX8_runs_127 : decode cX8_runs 127 = .ok (.aload_n 0, 1) := by decide +kernel
theorem dX8_runs_128 : decode cX8_runs 128 = .ok (.iconst 4, 1) := by decide +kernel
theorem dX8_runs_129 : decode cX8_runs 129 = .ok (.putfield 117, 3) := by decide +kernel
theorem dX8_runs_132 : decode cX8_runs 132 = .ok (.return_, 1) := by decide +kernel
theorem dX8_runs_133 : decode cX8_runs 133 = .ok (.aload_n 0, 1) := by decide +kernel
theorem dX8_runs_134 : decode cX8_runs 134 = .ok (.getfield 120, 3) := by decide +kernel
theorem dX8_runs_137 : decode cX8_runs 137 = .ok (.ifCond .le 17, 3) := by decide +kernel
theorem dX8_runs_140 : decode cX8_runs 140 = .ok (.aload_n 0, 1) := by decide +kernel
theorem dX8_runs_141 : decode cX8_runs 141 = .ok (.getfield 81, 3) := by decide +kernel
theorem dX8_runs_144 : decode cX8_runs 144 = .ok (.aload_n 0, 1) := by decide +kernel
theorem dX8_runs_145 : decode cX8_runs 145 = .ok (.getfield 120, 3) := by decide +kernel
theorem dX8_runs_148 : decode cX8_runs 148 = .ok (.iconst 1, 1) := by decide +kernel
theorem dX8_runs_149 : decode cX8_runs 149 = .ok (.isub, 1) := by decide +kernel
theorem dX8_runs_150 : decode cX8_runs 150 = .ok (.iaload, 1) := by decide +kernel
theorem dX8_runs_151 : decode cX8_runs 151 = .ok (.goto 4, 3) := by decide +kernel
theorem dX8_runs_154 : decode cX8_runs 154 = .ok (.iconst 0, 1) := by decide +kernel
theorem dX8_runs_155 : decode cX8_runs 155 = .ok (.istore 8, 2) := by decide +kernel
theorem dX8_runs_157 : decode cX8_runs 157 = .ok (.aload_n 0, 1) := by decide +kernel
theorem dX8_runs_158 : decode cX8_runs 158 = .ok (.getfield 120, 3) := by decide +kernel
theorem dX8_runs_161 : decode cX8_runs 161 = .ok (.iconst 1, 1) := by decide +kernel
theorem dX8_runs_162 : decode cX8_runs 162 = .ok (.if_icmp .le 17, 3) := by decide +kernel
theorem dX8_runs_165 : decode cX8_runs 165 = .ok (.aload_n 0, 1) := by decide +kernel
theorem dX8_runs_166 : decode cX8_runs 166 = .ok (.getfield 81, 3) := by decide +kernel
theorem dX8_runs_169 : decode cX8_runs 169 = .ok (.aload_n 0, 1) := by decide +kernel
theorem dX8_runs_170 : decode cX8_runs 170 = .ok (.getfield 120, 3) := by decide +kernel
theorem dX8_runs_173 : decode cX8_runs 173 = .ok (.iconst 2, 1) := by decide +kernel
theorem dX8_runs_174 : decode cX8_runs 174 = .ok (.isub, 1) := by decide +kernel
theorem dX8_runs_175 : decode cX8_runs 175 = .ok (.iaload, 1) := by decide +kernel
theorem dX8_runs_176 : decode cX8_runs 176 = .ok (.goto 4, 3) := by decide +kernel
theorem dX8_runs_179 : decode cX8_runs 179 = .ok (.iconst 0, 1) := by decide +kernel
theorem dX8_runs_180 : decode cX8_runs 180 = .ok (.istore 9, 2) := by decide +kernel
theorem dX8_runs_182 : decode cX8_runs 182 = .ok (.iload 6, 2) := by decide +kernel
theorem dX8_runs_184 : decode cX8_runs 184 = .ok (.tableswitch 244 0 9 #[56, 77, 86, 86, 86, 142, 151, 244, 244, 180], 56) := by decide +kernel
theorem dX8_runs_240 : decode cX8_runs 240 = .ok (.aload_n 0, 1) := by decide +kernel
theorem dX8_runs_241 : decode cX8_runs 241 = .ok (.aload_n 0, 1) := by decide +kernel
theorem dX8_runs_242 : decode cX8_runs 242 = .ok (.getfield 22, 3) := by decide +kernel
theorem dX8_runs_245 : decode cX8_runs 245 = .ok (.iconst 4, 1) := by decide +kernel
theorem dX8_runs_246 : decode cX8_runs 246 = .ok (.iload_n 2, 1) := by decide +kernel
theorem dX8_runs_247 : decode cX8_runs 247 = .ok (.imul, 1) := by decide +kernel
theorem dX8_runs_248 : decode cX8_runs 248 = .ok (.iload 5, 2) := by decide +kernel
theorem dX8_runs_250 : decode cX8_runs 250 = .ok (.iadd, 1) := by decide +kernel
theorem dX8_runs_251 : decode cX8_runs 251 = .ok (.iaload, 1) := by decide +kernel
theorem dX8_runs_252 : decode cX8_runs 252 = .ok (.invokevirtual 133, 3) := by decide +kernel
theorem dX8_runs_255 : decode cX8_runs 255 = .ok (.iinc 5 1, 3) := by decide +kernel
theorem dX8_runs_258 : decode cX8_runs 258 = .ok (.goto 239, 3) := by decide +kernel
theorem dX8_runs_261 : decode cX8_runs 261 = .ok (.aload_n 0, 1) := by decide +kernel
theorem dX8_runs_262 : decode cX8_runs 262 = .ok (.iload 7, 2) := by decide +kernel
theorem dX8_runs_264 : decode cX8_runs 264 = .ok (.invokevirtual 133, 3) := by decide +kernel
theorem dX8_runs_267 : decode cX8_runs 267 = .ok (.goto 230, 3) := by decide +kernel
theorem dX8_runs_270 : decode cX8_runs 270 = .ok (.aload_n 0, 1) := by decide +kernel
theorem dX8_runs_271 : decode cX8_runs 271 = .ok (.dup, 1) := by decide +kernel
theorem dX8_runs_272 : decode cX8_runs 272 = .ok (.getfield 120, 3) := by decide +kernel
theorem dX8_runs_275 : decode cX8_runs 275 = .ok (.iconst 2, 1) := by decide +kernel
theorem dX8_runs_276 : decode cX8_runs 276 = .ok (.isub, 1) := by decide +kernel
theorem dX8_runs_277 : decode cX8_runs 277 = .ok (.putfield 120, 3) := by decide +kernel
theorem dX8_runs_280 : decode cX8_runs 280 = .ok (.aload_n 0, 1) := by decide +kernel
theorem dX8_runs_281 : decode cX8_runs 281 = .ok (.iload 6, 2) := by decide +kernel
theorem dX8_runs_283 : decode cX8_runs 283 = .ok (.iconst 2, 1) := by decide +kernel
theorem dX8_runs_284 : decode cX8_runs 284 = .ok (.if_icmp .ne 13, 3) := by decide +kernel
theorem dX8_runs_287 : decode cX8_runs 287 = .ok (.iload 9, 2) := by decide +kernel
theorem dX8_runs_289 : decode cX8_runs 289 = .ok (.i2l, 1) := by decide +kernel
theorem dX8_runs_290 : decode cX8_runs 290 = .ok (.iload 8, 2) := by decide +kernel
theorem dX8_runs_292 : decode cX8_runs 292 = .ok (.i2l, 1) := by decide +kernel
theorem dX8_runs_293 : decode cX8_runs 293 = .ok (.ladd, 1) := by decide +kernel
theorem dX8_runs_294 : decode cX8_runs 294 = .ok (.goto 26, 3) := by decide +kernel
theorem dX8_runs_297 : decode cX8_runs 297 = .ok (.iload 6, 2) := by decide +kernel
theorem dX8_runs_299 : decode cX8_runs 299 = .ok (.iconst 3, 1) := by decide +kernel
theorem dX8_runs_300 : decode cX8_runs 300 = .ok (.if_icmp .ne 13, 3) := by decide +kernel
theorem dX8_runs_303 : decode cX8_runs 303 = .ok (.iload 9, 2) := by decide +kernel
theorem dX8_runs_305 : decode cX8_runs 305 = .ok (.i2l, 1) := by decide +kernel
theorem dX8_runs_306 : decode cX8_runs 306 = .ok (.iload 8, 2) := by decide +kernel
theorem dX8_runs_308 : decode cX8_runs 308 = .ok (.i2l, 1) := by decide +kernel
theorem dX8_runs_309 : decode cX8_runs 309 = .ok (.lsub, 1) := by decide +kernel
theorem dX8_runs_310 : decode cX8_runs 310 = .ok (.goto 10, 3) := by decide +kernel
theorem dX8_runs_313 : decode cX8_runs 313 = .ok (.iload 9, 2) := by decide +kernel
theorem dX8_runs_315 : decode cX8_runs 315 = .ok (.i2l, 1) := by decide +kernel
theorem dX8_runs_316 : decode cX8_runs 316 = .ok (.iload 8, 2) := by decide +kernel
theorem dX8_runs_318 : decode cX8_runs 318 = .ok (.i2l, 1) := by decide +kernel
theorem dX8_runs_319 : decode cX8_runs 319 = .ok (.lmul, 1) := by decide +kernel
theorem dX8_runs_320 : decode cX8_runs 320 = .ok (.invokevirtual 137, 3) := by decide +kernel
theorem dX8_runs_323 : decode cX8_runs 323 = .ok (.goto 174, 3) := by decide +kernel
theorem dX8_runs_326 : decode cX8_runs 326 = .ok (.aload_n 0, 1) := by decide +kernel
theorem dX8_runs_327 : decode cX8_runs 327 = .ok (.iload 8, 2) := by decide +kernel
theorem dX8_runs_329 : decode cX8_runs 329 = .ok (.invokevirtual 133, 3) := by decide +kernel
theorem dX8_runs_332 : decode cX8_runs 332 = .ok (.goto 165, 3) := by decide +kernel
theorem dX8_runs_335 : decode cX8_runs 335 = .ok (.aload_n 0, 1) := by decide +kernel
theorem dX8_runs_336 : decode cX8_runs 336 = .ok (.getfield 81, 3) := by decide +kernel
theorem dX8_runs_339 : decode cX8_runs 339 = .ok (.aload_n 0, 1) := by decide +kernel
theorem dX8_runs_340 : decode cX8_runs 340 = .ok (.getfield 120, 3) := by decide +kernel
theorem dX8_runs_343 : decode cX8_runs 343 = .ok (.iconst 1, 1) := by decide +kernel
theorem dX8_runs_344 : decode cX8_runs 344 = .ok (.isub, 1) := by decide +kernel
theorem dX8_runs_345 : decode cX8_runs 345 = .ok (.iload 9, 2) := by decide +kernel
theorem dX8_runs_347 : decode cX8_runs 347 = .ok (.iastore, 1) := by decide +kernel
theorem dX8_runs_348 : decode cX8_runs 348 = .ok (.aload_n 0, 1) := by decide +kernel
theorem dX8_runs_349 : decode cX8_runs 349 = .ok (.getfield 81, 3) := by decide +kernel
theorem dX8_runs_352 : decode cX8_runs 352 = .ok (.aload_n 0, 1) := by decide +kernel
theorem dX8_runs_353 : decode cX8_runs 353 = .ok (.getfield 120, 3) := by decide +kernel
theorem dX8_runs_356 : decode cX8_runs 356 = .ok (.iconst 2, 1) := by decide +kernel
theorem dX8_runs_357 : decode cX8_runs 357 = .ok (.isub, 1) := by decide +kernel
theorem dX8_runs_358 : decode cX8_runs 358 = .ok (.iload 8, 2) := by decide +kernel
theorem dX8_runs_360 : decode cX8_runs 360 = .ok (.iastore, 1) := by decide +kernel
theorem dX8_runs_361 : decode cX8_runs 361 = .ok (.goto 136, 3) := by decide +kernel
theorem dX8_runs_364 : decode cX8_runs 364 = .ok (.aload_n 0, 1) := by decide +kernel
theorem dX8_runs_365 : decode cX8_runs 365 = .ok (.dup, 1) := by decide +kernel
theorem dX8_runs_366 : decode cX8_runs 366 = .ok (.getfield 120, 3) := by decide +kernel
theorem dX8_runs_369 : decode cX8_runs 369 = .ok (.iconst 1, 1) := by decide +kernel
theorem dX8_runs_370 : decode cX8_runs 370 = .ok (.isub, 1) := by decide +kernel
theorem dX8_runs_371 : decode cX8_runs 371 = .ok (.putfield 120, 3) := by decide +kernel
theorem dX8_runs_374 : decode cX8_runs 374 = .ok (.aload_n 0, 1) := by decide +kernel
theorem dX8_runs_375 : decode cX8_runs 375 = .ok (.aload_n 0, 1) := by decide +kernel
theorem dX8_runs_376 : decode cX8_runs 376 = .ok (.getfield 126, 3) := by decide +kernel
theorem dX8_runs_379 : decode cX8_runs 379 = .ok (.bipush 8, 2) := by decide +kernel
theorem dX8_runs_381 : decode cX8_runs 381 = .ok (.if_icmp .ne 7, 3) := by decide +kernel
theorem dX8_runs_384 : decode cX8_runs 384 = .ok (.iconst 3, 1) := by decide +kernel
theorem dX8_runs_385 : decode cX8_runs 385 = .ok (.goto 7, 3) := by decide +kernel
theorem dX8_runs_388 : decode cX8_runs 388 = .ok (.aload_n 0, 1) := by decide +kernel
theorem dX8_runs_389 : decode cX8_runs 389 = .ok (.getfield 117, 3) := by decide +kernel
theorem dX8_runs_392 : decode cX8_runs 392 = .ok (.putfield 117, 3) := by decide +kernel
theorem dX8_runs_395 : decode cX8_runs 395 = .ok (.aload_n 0, 1) := by decide +kernel
theorem dX8_runs_396 : decode cX8_runs 396 = .ok (.getfield 126, 3) := by decide +kernel
theorem dX8_runs_399 : decode cX8_runs 399 = .ok (.bipush 8, 2) := by decide +kernel
theorem dX8_runs_401 : decode cX8_runs 401 = .ok (.if_icmp .ge 96, 3) := by decide +kernel
theorem dX8_runs_404 : decode cX8_runs 404 = .ok (.aload_n 0, 1) := by decide +kernel
theorem dX8_runs_405 : decode cX8_runs 405 = .ok (.getfield 78, 3) := by decide +kernel
theorem dX8_runs_408 : decode cX8_runs 408 = .ok (.aload_n 0, 1) := by decide +kernel
theorem dX8_runs_409 : decode cX8_runs 409 = .ok (.getfield 126, 3) := by decide +kernel
theorem dX8_runs_412 : decode cX8_runs 412 = .ok (.iload 8, 2) := by decide +kernel
theorem dX8_runs_414 : decode cX8_runs 414 = .ok (.iastore, 1) := by decide +kernel
theorem dX8_runs_415 : decode cX8_runs 415 = .ok (.aload_n 0, 1) := by decide +kernel
theorem dX8_runs_416 : decode cX8_runs 416 = .ok (.dup, 1) := by decide +kernel
theorem dX8_runs_417 : decode cX8_runs 417 = .ok (.getfield 126, 3) := by decide +kernel
theorem dX8_runs_420 : decode cX8_runs 420 = .ok (.iconst 1, 1) := by decide +kernel
theorem dX8_runs_421 : decode cX8_runs 421 = .ok (.iadd, 1) := by decide +kernel
theorem dX8_runs_422 : decode cX8_runs 422 = .ok (.putfield 126, 3) := by decide +kernel
theorem dX8_runs_425 : decode cX8_runs 425 = .ok (.goto 72, 3) := by decide +kernel
theorem dX8_runs_428 : decode cX8_runs 428 = .ok (.aload_n 0, 1) := by decide +kernel
theorem dX8_runs_429 : decode cX8_runs 429 = .ok (.dup, 1) := by decide +kernel
theorem dX8_runs_430 : decode cX8_runs 430 = .ok (.getfield 120, 3) := by decide +kernel
theorem dX8_runs_433 : decode cX8_runs 433 = .ok (.iload 6, 2) := by decide +kernel
theorem dX8_runs_435 : decode cX8_runs 435 = .ok (.bipush 7, 2) := by decide +kernel
theorem dX8_runs_437 : decode cX8_runs 437 = .ok (.if_icmp .ne 7, 3) := by decide +kernel
theorem dX8_runs_440 : decode cX8_runs 440 = .ok (.iconst 1, 1) := by decide +kernel
theorem dX8_runs_441 : decode cX8_runs 441 = .ok (.goto 4, 3) := by decide +kernel
theorem dX8_runs_444 : decode cX8_runs 444 = .ok (.iconst 0, 1) := by decide +kernel
theorem dX8_runs_445 : decode cX8_runs 445 = .ok (.isub, 1) := by decide +kernel
theorem dX8_runs_446 : decode cX8_runs 446 = .ok (.putfield 120, 3) := by decide +kernel
theorem dX8_runs_449 : decode cX8_runs 449 = .ok (.iload 6, 2) := by decide +kernel
theorem dX8_runs_451 : decode cX8_runs 451 = .ok (.bipush 8, 2) := by decide +kernel
theorem dX8_runs_453 : decode cX8_runs 453 = .ok (.if_icmp .eq 8, 3) := by decide +kernel
theorem dX8_runs_456 : decode cX8_runs 456 = .ok (.iload 8, 2) := by decide +kernel
theorem dX8_runs_458 : decode cX8_runs 458 = .ok (.ifCond .ne 8, 3) := by decide +kernel
theorem dX8_runs_461 : decode cX8_runs 461 = .ok (.iload 7, 2) := by decide +kernel
theorem dX8_runs_463 : decode cX8_runs 463 = .ok (.goto 5, 3) := by decide +kernel
theorem dX8_runs_466 : decode cX8_runs 466 = .ok (.iload 4, 2) := by decide +kernel
theorem dX8_runs_468 : decode cX8_runs 468 = .ok (.istore 4, 2) := by decide +kernel
theorem dX8_runs_470 : decode cX8_runs 470 = .ok (.aload_n 0, 1) := by decide +kernel
theorem dX8_runs_471 : decode cX8_runs 471 = .ok (.iload 4, 2) := by decide +kernel
theorem dX8_runs_473 : decode cX8_runs 473 = .ok (.iconst 0, 1) := by decide +kernel
theorem dX8_runs_474 : decode cX8_runs 474 = .ok (.aload_n 0, 1) := by decide +kernel
theorem dX8_runs_475 : decode cX8_runs 475 = .ok (.getfield 7, 3) := by decide +kernel
theorem dX8_runs_478 : decode cX8_runs 478 = .ok (.iload_n 1, 1) := by decide +kernel
theorem dX8_runs_479 : decode cX8_runs 479 = .ok (.iaload, 1) := by decide +kernel
theorem dX8_runs_480 : decode cX8_runs 480 = .ok (.invokestatic 108, 3) := by decide +kernel
theorem dX8_runs_483 : decode cX8_runs 483 = .ok (.ifCond .eq 10, 3) := by decide +kernel
theorem dX8_runs_486 : decode cX8_runs 486 = .ok (.aload_n 0, 1) := by decide +kernel
theorem dX8_runs_487 : decode cX8_runs 487 = .ok (.getfield 117, 3) := by decide +kernel
theorem dX8_runs_490 : decode cX8_runs 490 = .ok (.goto 4, 3) := by decide +kernel
theorem dX8_runs_493 : decode cX8_runs 493 = .ok (.iconst 4, 1) := by decide +kernel
theorem dX8_runs_494 : decode cX8_runs 494 = .ok (.putfield 117, 3) := by decide +kernel
theorem dX8_runs_497 : decode cX8_runs 497 = .ok (.goto (-471), 3) := by decide +kernel
theorem dX8_runs_500 : decode cX8_runs 500 = .ok (.return_, 1) := by decide +kernel
theorem dX8_makes_0 : decode cX8_makes 0 = .ok (.lload_n 1, 1) := by decide +kernel
theorem dX8_makes_1 : decode cX8_makes 1 = .ok (.ldc2_w 141, 3) := by decide +kernel
theorem dX8_makes_4 : decode cX8_makes 4 = .ok (.lcmp, 1) := by decide +kernel
theorem dX8_makes_5 : decode cX8_makes 5 = .ok (.ifCond .gt 11, 3) := by decide +kernel
theorem dX8_makes_8 : decode cX8_makes 8 = .ok (.lload_n 1, 1) := by decide +kernel
theorem dX8_makes_9 : decode cX8_makes 9 = .ok (.ldc2_w 143, 3) := by decide +kernel
theorem dX8_makes_12 : decode cX8_makes 12 = .ok (.lcmp, 1) := by decide +kernel
theorem dX8_makes_13 : decode cX8_makes 13 = .ok (.ifCond .ge 11, 3) := by decide +kernel
theorem dX8_makes_16 : decode cX8_makes 16 = .ok (.aload_n 0, 1) := by decide +kernel
theorem dX8_makes_17 : decode cX8_makes 17 = .ok (.iconst 4, 1) := by decide +kernel
theorem dX8_makes_18 : decode cX8_makes 18 = .ok (.putfield 117, 3) := by decide +kernel
theorem dX8_makes_21 : decode cX8_makes 21 = .ok (.goto 9, 3) := by decide +kernel
theorem dX8_makes_24 : decode cX8_makes 24 = .ok (.aload_n 0, 1) := by decide +kernel
theorem dX8_makes_25 : decode cX8_makes 25 = .ok (.lload_n 1, 1) := by decide +kernel
theorem dX8_makes_26 : decode cX8_makes 26 = .ok (.l2i, 1) := by decide +kernel
theorem dX8_makes_27 : decode cX8_makes 27 = .ok (.invokevirtual 133, 3) := by decide +kernel
theorem dX8_makes_30 : decode cX8_makes 30 = .ok (.return_, 1) := by decide +kernel
theorem dX8_empties_0 : decode cX8_empties 0 = .ok (.aload_n 0, 1) := by decide +kernel
theorem dX8_empties_1 : decode cX8_empties 1 = .ok (.getfield 7, 3) := by decide +kernel
theorem dX8_empties_4 : decode cX8_empties 4 = .ok (.iload_n 1, 1) := by decide +kernel
theorem dX8_empties_5 : decode cX8_empties 5 = .ok (.iconst 0, 1) := by decide +kernel
theorem dX8_empties_6 : decode cX8_empties 6 = .ok (.iastore, 1) := by decide +kernel
theorem dX8_empties_7 : decode cX8_empties 7 = .ok (.return_, 1) := by decide +kernel
theorem dX8_copies_0 : decode cX8_copies 0 = .ok (.iconst 0, 1) := by decide +kernel
theorem dX8_copies_1 : decode cX8_copies 1 = .ok (.istore_n 3, 1) := by decide +kernel
theorem dX8_copies_2 : decode cX8_copies 2 = .ok (.iload_n 3, 1) := by decide +kernel
theorem dX8_copies_3 : decode cX8_copies 3 = .ok (.aload_n 0, 1) := by decide +kernel
theorem dX8_copies_4 : decode cX8_copies 4 = .ok (.getfield 7, 3) := by decide +kernel
theorem dX8_copies_7 : decode cX8_copies 7 = .ok (.iload_n 1, 1) := by decide +kernel
theorem dX8_copies_8 : decode cX8_copies 8 = .ok (.iaload, 1) := by decide +kernel
theorem dX8_copies_9 : decode cX8_copies 9 = .ok (.if_icmp .ge 53, 3) := by decide +kernel
theorem dX8_copies_12 : decode cX8_copies 12 = .ok (.aload_n 0, 1) := by decide +kernel
theorem dX8_copies_13 : decode cX8_copies 13 = .ok (.getfield 13, 3) := by decide +kernel
theorem dX8_copies_16 : decode cX8_copies 16 = .ok (.bipush 16, 2) := by decide +kernel
theorem dX8_copies_18 : decode cX8_copies 18 = .ok (.iload_n 2, 1) := by decide +kernel
theorem dX8_copies_19 : decode cX8_copies 19 = .ok (.imul, 1) := by decide +kernel
theorem dX8_copies_20 : decode cX8_copies 20 = .ok (.iload_n 3, 1) := by decide +kernel
theorem dX8_copies_21 : decode cX8_copies 21 = .ok (.iadd, 1) := by decide +kernel
theorem dX8_copies_22 : decode cX8_copies 22 = .ok (.aload_n 0, 1) := by decide +kernel
theorem dX8_copies_23 : decode cX8_copies 23 = .ok (.getfield 13, 3) := by decide +kernel
theorem dX8_copies_26 : decode cX8_copies 26 = .ok (.bipush 16, 2) := by decide +kernel
theorem dX8_copies_28 : decode cX8_copies 28 = .ok (.iload_n 1, 1) := by decide +kernel
theorem dX8_copies_29 : decode cX8_copies 29 = .ok (.imul, 1) := by decide +kernel
theorem dX8_copies_30 : decode cX8_copies 30 = .ok (.iload_n 3, 1) := by decide +kernel
theorem dX8_copies_31 : decode cX8_copies 31 = .ok (.iadd, 1) := by decide +kernel
theorem dX8_copies_32 : decode cX8_copies 32 = .ok (.iaload, 1) := by decide +kernel
theorem dX8_copies_33 : decode cX8_copies 33 = .ok (.iastore, 1) := by decide +kernel
theorem dX8_copies_34 : decode cX8_copies 34 = .ok (.aload_n 0, 1) := by decide +kernel
theorem dX8_copies_35 : decode cX8_copies 35 = .ok (.getfield 16, 3) := by decide +kernel
theorem dX8_copies_38 : decode cX8_copies 38 = .ok (.bipush 16, 2) := by decide +kernel
theorem dX8_copies_40 : decode cX8_copies 40 = .ok (.iload_n 2, 1) := by decide +kernel
theorem dX8_copies_41 : decode cX8_copies 41 = .ok (.imul, 1) := by decide +kernel
theorem dX8_copies_42 : decode cX8_copies 42 = .ok (.iload_n 3, 1) := by decide +kernel
theorem dX8_copies_43 : decode cX8_copies 43 = .ok (.iadd, 1) := by decide +kernel
theorem dX8_copies_44 : decode cX8_copies 44 = .ok (.aload_n 0, 1) := by decide +kernel
theorem dX8_copies_45 : decode cX8_copies 45 = .ok (.getfield 16, 3) := by decide +kernel
theorem dX8_copies_48 : decode cX8_copies 48 = .ok (.bipush 16, 2) := by decide +kernel
theorem dX8_copies_50 : decode cX8_copies 50 = .ok (.iload_n 1, 1) := by decide +kernel
theorem dX8_copies_51 : decode cX8_copies 51 = .ok (.imul, 1) := by decide +kernel
theorem dX8_copies_52 : decode cX8_copies 52 = .ok (.iload_n 3, 1) := by decide +kernel
theorem dX8_copies_53 : decode cX8_copies 53 = .ok (.iadd, 1) := by decide +kernel
theorem dX8_copies_54 : decode cX8_copies 54 = .ok (.iaload, 1) := by decide +kernel
theorem dX8_copies_55 : decode cX8_copies 55 = .ok (.iastore, 1) := by decide +kernel
theorem dX8_copies_56 : decode cX8_copies 56 = .ok (.iinc 3 1, 3) := by decide +kernel
theorem dX8_copies_59 : decode cX8_copies 59 = .ok (.goto (-57), 3) := by decide +kernel
theorem dX8_copies_62 : decode cX8_copies 62 = .ok (.aload_n 0, 1) := by decide +kernel
theorem dX8_copies_63 : decode cX8_copies 63 = .ok (.getfield 7, 3) := by decide +kernel
theorem dX8_copies_66 : decode cX8_copies 66 = .ok (.iload_n 2, 1) := by decide +kernel
theorem dX8_copies_67 : decode cX8_copies 67 = .ok (.aload_n 0, 1) := by decide +kernel
theorem dX8_copies_68 : decode cX8_copies 68 = .ok (.getfield 7, 3) := by decide +kernel
theorem dX8_copies_71 : decode cX8_copies 71 = .ok (.iload_n 1, 1) := by decide +kernel
theorem dX8_copies_72 : decode cX8_copies 72 = .ok (.iaload, 1) := by decide +kernel
theorem dX8_copies_73 : decode cX8_copies 73 = .ok (.iastore, 1) := by decide +kernel
theorem dX8_copies_74 : decode cX8_copies 74 = .ok (.return_, 1) := by decide +kernel
theorem dX8_code_0 : decode cX8_code 0 = .ok (.aload_n 0, 1) := by decide +kernel
theorem dX8_code_1 : decode cX8_code 1 = .ok (.iload_n 1, 1) := by decide +kernel
theorem dX8_code_2 : decode cX8_code 2 = .ok (.iconst 0, 1) := by decide +kernel
theorem dX8_code_3 : decode cX8_code 3 = .ok (.bipush 9, 2) := by decide +kernel
theorem dX8_code_5 : decode cX8_code 5 = .ok (.invokestatic 108, 3) := by decide +kernel
theorem dX8_code_8 : decode cX8_code 8 = .ok (.ifCond .eq 14, 3) := by decide +kernel
theorem dX8_code_11 : decode cX8_code 11 = .ok (.iload_n 2, 1) := by decide +kernel
theorem dX8_code_12 : decode cX8_code 12 = .ok (.bipush (-99), 2) := by decide +kernel
theorem dX8_code_14 : decode cX8_code 14 = .ok (.bipush 99, 2) := by decide +kernel
theorem dX8_code_16 : decode cX8_code 16 = .ok (.invokestatic 108, 3) := by decide +kernel
theorem dX8_code_19 : decode cX8_code 19 = .ok (.ifCond .ne 7, 3) := by decide +kernel
theorem dX8_code_22 : decode cX8_code 22 = .ok (.iconst 1, 1) := by decide +kernel
theorem dX8_code_23 : decode cX8_code 23 = .ok (.goto 19, 3) := by decide +kernel
theorem dX8_code_26 : decode cX8_code 26 = .ok (.aload_n 0, 1) := by decide +kernel
theorem dX8_code_27 : decode cX8_code 27 = .ok (.getfield 7, 3) := by decide +kernel
theorem dX8_code_30 : decode cX8_code 30 = .ok (.iconst 0, 1) := by decide +kernel
theorem dX8_code_31 : decode cX8_code 31 = .ok (.iaload, 1) := by decide +kernel
theorem dX8_code_32 : decode cX8_code 32 = .ok (.bipush 16, 2) := by decide +kernel
theorem dX8_code_34 : decode cX8_code 34 = .ok (.if_icmp .ne 7, 3) := by decide +kernel
theorem dX8_code_37 : decode cX8_code 37 = .ok (.iconst 2, 1) := by decide +kernel
theorem dX8_code_38 : decode cX8_code 38 = .ok (.goto 4, 3) := by decide +kernel
theorem dX8_code_41 : decode cX8_code 41 = .ok (.iconst 0, 1) := by decide +kernel
theorem dX8_code_42 : decode cX8_code 42 = .ok (.putfield 102, 3) := by decide +kernel
theorem dX8_code_45 : decode cX8_code 45 = .ok (.aload_n 0, 1) := by decide +kernel
theorem dX8_code_46 : decode cX8_code 46 = .ok (.getfield 102, 3) := by decide +kernel
theorem dX8_code_49 : decode cX8_code 49 = .ok (.ifCond .le 5, 3) := by decide +kernel
theorem dX8_code_52 : decode cX8_code 52 = .ok (.iconst 0, 1) := by decide +kernel
theorem dX8_code_53 : decode cX8_code 53 = .ok (.ireturn, 1) := by decide +kernel
theorem dX8_code_54 : decode cX8_code 54 = .ok (.aload_n 0, 1) := by decide +kernel
theorem dX8_code_55 : decode cX8_code 55 = .ok (.getfield 13, 3) := by decide +kernel
theorem dX8_code_58 : decode cX8_code 58 = .ok (.aload_n 0, 1) := by decide +kernel
theorem dX8_code_59 : decode cX8_code 59 = .ok (.getfield 7, 3) := by decide +kernel
theorem dX8_code_62 : decode cX8_code 62 = .ok (.iconst 0, 1) := by decide +kernel
theorem dX8_code_63 : decode cX8_code 63 = .ok (.iaload, 1) := by decide +kernel
theorem dX8_code_64 : decode cX8_code 64 = .ok (.iload_n 1, 1) := by decide +kernel
theorem dX8_code_65 : decode cX8_code 65 = .ok (.iastore, 1) := by decide +kernel
theorem dX8_code_66 : decode cX8_code 66 = .ok (.aload_n 0, 1) := by decide +kernel
theorem dX8_code_67 : decode cX8_code 67 = .ok (.getfield 16, 3) := by decide +kernel
theorem dX8_code_70 : decode cX8_code 70 = .ok (.aload_n 0, 1) := by decide +kernel
theorem dX8_code_71 : decode cX8_code 71 = .ok (.getfield 7, 3) := by decide +kernel
theorem dX8_code_74 : decode cX8_code 74 = .ok (.iconst 0, 1) := by decide +kernel
theorem dX8_code_75 : decode cX8_code 75 = .ok (.iaload, 1) := by decide +kernel
theorem dX8_code_76 : decode cX8_code 76 = .ok (.iload_n 2, 1) := by decide +kernel
theorem dX8_code_77 : decode cX8_code 77 = .ok (.iastore, 1) := by decide +kernel
theorem dX8_code_78 : decode cX8_code 78 = .ok (.aload_n 0, 1) := by decide +kernel
theorem dX8_code_79 : decode cX8_code 79 = .ok (.getfield 7, 3) := by decide +kernel
theorem dX8_code_82 : decode cX8_code 82 = .ok (.iconst 0, 1) := by decide +kernel
theorem dX8_code_83 : decode cX8_code 83 = .ok (.dup2, 1) := by decide +kernel
theorem dX8_code_84 : decode cX8_code 84 = .ok (.iaload, 1) := by decide +kernel
theorem dX8_code_85 : decode cX8_code 85 = .ok (.iconst 1, 1) := by decide +kernel
theorem dX8_code_86 : decode cX8_code 86 = .ok (.iadd, 1) := by decide +kernel
theorem dX8_code_87 : decode cX8_code 87 = .ok (.iastore, 1) := by decide +kernel
theorem dX8_code_88 : decode cX8_code 88 = .ok (.aload_n 0, 1) := by decide +kernel
theorem dX8_code_89 : decode cX8_code 89 = .ok (.getfield 7, 3) := by decide +kernel
theorem dX8_code_92 : decode cX8_code 92 = .ok (.iconst 0, 1) := by decide +kernel
theorem dX8_code_93 : decode cX8_code 93 = .ok (.iaload, 1) := by decide +kernel
theorem dX8_code_94 : decode cX8_code 94 = .ok (.ireturn, 1) := by decide +kernel
theorem dX8_input_0 : decode cX8_input 0 = .ok (.aload_n 0, 1) := by decide +kernel
theorem dX8_input_1 : decode cX8_input 1 = .ok (.iload_n 1, 1) := by decide +kernel
theorem dX8_input_2 : decode cX8_input 2 = .ok (.bipush (-9), 2) := by decide +kernel
theorem dX8_input_4 : decode cX8_input 4 = .ok (.bipush 9, 2) := by decide +kernel
theorem dX8_input_6 : decode cX8_input 6 = .ok (.invokestatic 108, 3) := by decide +kernel
theorem dX8_input_9 : decode cX8_input 9 = .ok (.ifCond .ne 7, 3) := by decide +kernel
theorem dX8_input_12 : decode cX8_input 12 = .ok (.iconst 1, 1) := by decide +kernel
theorem dX8_input_13 : decode cX8_input 13 = .ok (.goto 19, 3) := by decide +kernel
theorem dX8_input_16 : decode cX8_input 16 = .ok (.aload_n 0, 1) := by decide +kernel
theorem dX8_input_17 : decode cX8_input 17 = .ok (.getfield 19, 3) := by decide +kernel
theorem dX8_input_20 : decode cX8_input 20 = .ok (.bipush 72, 2) := by decide +kernel
theorem dX8_input_22 : decode cX8_input 22 = .ok (.iaload, 1) := by decide +kernel
theorem dX8_input_23 : decode cX8_input 23 = .ok (.iconst 4, 1) := by decide +kernel
theorem dX8_input_24 : decode cX8_input 24 = .ok (.if_icmp .ne 7, 3) := by decide +kernel
theorem dX8_input_27 : decode cX8_input 27 = .ok (.iconst 2, 1) := by decide +kernel
theorem dX8_input_28 : decode cX8_input 28 = .ok (.goto 4, 3) := by decide +kernel
theorem dX8_input_31 : decode cX8_input 31 = .ok (.iconst 0, 1) := by decide +kernel
theorem dX8_input_32 : decode cX8_input 32 = .ok (.putfield 102, 3) := by decide +kernel
theorem dX8_input_35 : decode cX8_input 35 = .ok (.aload_n 0, 1) := by decide +kernel
theorem dX8_input_36 : decode cX8_input 36 = .ok (.getfield 102, 3) := by decide +kernel
theorem dX8_input_39 : decode cX8_input 39 = .ok (.ifCond .le 5, 3) := by decide +kernel
theorem dX8_input_42 : decode cX8_input 42 = .ok (.iconst 0, 1) := by decide +kernel
theorem dX8_input_43 : decode cX8_input 43 = .ok (.ireturn, 1) := by decide +kernel
theorem dX8_input_44 : decode cX8_input 44 = .ok (.aload_n 0, 1) := by decide +kernel
theorem dX8_input_45 : decode cX8_input 45 = .ok (.getfield 22, 3) := by decide +kernel
theorem dX8_input_48 : decode cX8_input 48 = .ok (.sipush 288, 3) := by decide +kernel
theorem dX8_input_51 : decode cX8_input 51 = .ok (.aload_n 0, 1) := by decide +kernel
theorem dX8_input_52 : decode cX8_input 52 = .ok (.getfield 19, 3) := by decide +kernel
theorem dX8_input_55 : decode cX8_input 55 = .ok (.bipush 72, 2) := by decide +kernel
theorem dX8_input_57 : decode cX8_input 57 = .ok (.iaload, 1) := by decide +kernel
theorem dX8_input_58 : decode cX8_input 58 = .ok (.iadd, 1) := by decide +kernel
theorem dX8_input_59 : decode cX8_input 59 = .ok (.iload_n 1, 1) := by decide +kernel
theorem dX8_input_60 : decode cX8_input 60 = .ok (.iastore, 1) := by decide +kernel
theorem dX8_input_61 : decode cX8_input 61 = .ok (.aload_n 0, 1) := by decide +kernel
theorem dX8_input_62 : decode cX8_input 62 = .ok (.getfield 19, 3) := by decide +kernel
theorem dX8_input_65 : decode cX8_input 65 = .ok (.bipush 72, 2) := by decide +kernel
theorem dX8_input_67 : decode cX8_input 67 = .ok (.dup2, 1) := by decide +kernel
theorem dX8_input_68 : decode cX8_input 68 = .ok (.iaload, 1) := by decide +kernel
theorem dX8_input_69 : decode cX8_input 69 = .ok (.iconst 1, 1) := by decide +kernel
theorem dX8_input_70 : decode cX8_input 70 = .ok (.iadd, 1) := by decide +kernel
theorem dX8_input_71 : decode cX8_input 71 = .ok (.iastore, 1) := by decide +kernel
theorem dX8_input_72 : decode cX8_input 72 = .ok (.aload_n 0, 1) := by decide +kernel
theorem dX8_input_73 : decode cX8_input 73 = .ok (.getfield 19, 3) := by decide +kernel
theorem dX8_input_76 : decode cX8_input 76 = .ok (.bipush 72, 2) := by decide +kernel
theorem dX8_input_78 : decode cX8_input 78 = .ok (.iaload, 1) := by decide +kernel
theorem dX8_input_79 : decode cX8_input 79 = .ok (.ireturn, 1) := by decide +kernel
theorem dX8_clear_0 : decode cX8_clear 0 = .ok (.aload_n 0, 1) := by decide +kernel
theorem dX8_clear_1 : decode cX8_clear 1 = .ok (.iconst 0, 1) := by decide +kernel
theorem dX8_clear_2 : decode cX8_clear 2 = .ok (.putfield 102, 3) := by decide +kernel
theorem dX8_clear_5 : decode cX8_clear 5 = .ok (.aload_n 0, 1) := by decide +kernel
theorem dX8_clear_6 : decode cX8_clear 6 = .ok (.getfield 7, 3) := by decide +kernel
theorem dX8_clear_9 : decode cX8_clear 9 = .ok (.iconst 0, 1) := by decide +kernel
theorem dX8_clear_10 : decode cX8_clear 10 = .ok (.iaload, 1) := by decide +kernel
theorem dX8_clear_11 : decode cX8_clear 11 = .ok (.istore_n 1, 1) := by decide +kernel
theorem dX8_clear_12 : decode cX8_clear 12 = .ok (.aload_n 0, 1) := by decide +kernel
theorem dX8_clear_13 : decode cX8_clear 13 = .ok (.iconst 0, 1) := by decide +kernel
theorem dX8_clear_14 : decode cX8_clear 14 = .ok (.invokevirtual 145, 3) := by decide +kernel
theorem dX8_clear_17 : decode cX8_clear 17 = .ok (.aload_n 0, 1) := by decide +kernel
theorem dX8_clear_18 : decode cX8_clear 18 = .ok (.getfield 19, 3) := by decide +kernel
theorem dX8_clear_21 : decode cX8_clear 21 = .ok (.bipush 72, 2) := by decide +kernel
theorem dX8_clear_23 : decode cX8_clear 23 = .ok (.iconst 0, 1) := by decide +kernel
theorem dX8_clear_24 : decode cX8_clear 24 = .ok (.iastore, 1) := by decide +kernel
theorem dX8_clear_25 : decode cX8_clear 25 = .ok (.iload_n 1, 1) := by decide +kernel
theorem dX8_clear_26 : decode cX8_clear 26 = .ok (.ireturn, 1) := by decide +kernel
theorem dX8_run_0 : decode cX8_run 0 = .ok (.aload_n 0, 1) := by decide +kernel
theorem dX8_run_1 : decode cX8_run 1 = .ok (.iload_n 1, 1) := by decide +kernel
theorem dX8_run_2 : decode cX8_run 2 = .ok (.iconst 1, 1) := by decide +kernel
theorem dX8_run_3 : decode cX8_run 3 = .ok (.sipush 500, 3) := by decide +kernel
theorem dX8_run_6 : decode cX8_run 6 = .ok (.invokestatic 108, 3) := by decide +kernel
theorem dX8_run_9 : decode cX8_run 9 = .ok (.ifCond .eq 17, 3) := by decide +kernel
theorem dX8_run_12 : decode cX8_run 12 = .ok (.iload_n 2, 1) := by decide +kernel
theorem dX8_run_13 : decode cX8_run 13 = .ok (.iconst 0, 1) := by decide +kernel
theorem dX8_run_14 : decode cX8_run 14 = .ok (.bipush 10, 2) := by decide +kernel
theorem dX8_run_16 : decode cX8_run 16 = .ok (.invokestatic 108, 3) := by decide +kernel
theorem dX8_run_19 : decode cX8_run 19 = .ok (.ifCond .eq 7, 3) := by decide +kernel
theorem dX8_run_22 : decode cX8_run 22 = .ok (.iconst 0, 1) := by decide +kernel
theorem dX8_run_23 : decode cX8_run 23 = .ok (.goto 4, 3) := by decide +kernel
theorem dX8_run_26 : decode cX8_run 26 = .ok (.iconst 1, 1) := by decide +kernel
theorem dX8_run_27 : decode cX8_run 27 = .ok (.putfield 102, 3) := by decide +kernel
theorem dX8_run_30 : decode cX8_run 30 = .ok (.aload_n 0, 1) := by decide +kernel
theorem dX8_run_31 : decode cX8_run 31 = .ok (.getfield 102, 3) := by decide +kernel
theorem dX8_run_34 : decode cX8_run 34 = .ok (.ifCond .le 5, 3) := by decide +kernel
theorem dX8_run_37 : decode cX8_run 37 = .ok (.iconst 0, 1) := by decide +kernel
theorem dX8_run_38 : decode cX8_run 38 = .ok (.ireturn, 1) := by decide +kernel
theorem dX8_run_39 : decode cX8_run 39 = .ok (.aload_n 0, 1) := by decide +kernel
theorem dX8_run_40 : decode cX8_run 40 = .ok (.iconst 0, 1) := by decide +kernel
theorem dX8_run_41 : decode cX8_run 41 = .ok (.bipush 72, 2) := by decide +kernel
theorem dX8_run_43 : decode cX8_run 43 = .ok (.iload_n 1, 1) := by decide +kernel
theorem dX8_run_44 : decode cX8_run 44 = .ok (.invokevirtual 148, 3) := by decide +kernel
theorem dX8_run_47 : decode cX8_run 47 = .ok (.iload_n 2, 1) := by decide +kernel
theorem dX8_run_48 : decode cX8_run 48 = .ok (.ifCond .ne 10, 3) := by decide +kernel
theorem dX8_run_51 : decode cX8_run 51 = .ok (.aload_n 0, 1) := by decide +kernel
theorem dX8_run_52 : decode cX8_run 52 = .ok (.getfield 117, 3) := by decide +kernel
theorem dX8_run_55 : decode cX8_run 55 = .ok (.goto 49, 3) := by decide +kernel
theorem dX8_run_58 : decode cX8_run 58 = .ok (.iload_n 2, 1) := by decide +kernel
theorem dX8_run_59 : decode cX8_run 59 = .ok (.iconst 1, 1) := by decide +kernel
theorem dX8_run_60 : decode cX8_run 60 = .ok (.if_icmp .ne 10, 3) := by decide +kernel
theorem dX8_run_63 : decode cX8_run 63 = .ok (.aload_n 0, 1) := by decide +kernel
theorem dX8_run_64 : decode cX8_run 64 = .ok (.getfield 123, 3) := by decide +kernel
theorem dX8_run_67 : decode cX8_run 67 = .ok (.goto 37, 3) := by decide +kernel
theorem dX8_run_70 : decode cX8_run 70 = .ok (.iload_n 2, 1) := by decide +kernel
theorem dX8_run_71 : decode cX8_run 71 = .ok (.iconst 2, 1) := by decide +kernel
theorem dX8_run_72 : decode cX8_run 72 = .ok (.if_icmp .ne 10, 3) := by decide +kernel
theorem dX8_run_75 : decode cX8_run 75 = .ok (.aload_n 0, 1) := by decide +kernel
theorem dX8_run_76 : decode cX8_run 76 = .ok (.getfield 126, 3) := by decide +kernel
theorem dX8_run_79 : decode cX8_run 79 = .ok (.goto 25, 3) := by decide +kernel
theorem dX8_run_82 : decode cX8_run 82 = .ok (.iload_n 2, 1) := by decide +kernel
theorem dX8_run_83 : decode cX8_run 83 = .ok (.iconst 3, 1) := by decide +kernel
theorem dX8_run_84 : decode cX8_run 84 = .ok (.isub, 1) := by decide +kernel
theorem dX8_run_85 : decode cX8_run 85 = .ok (.aload_n 0, 1) := by decide +kernel
theorem dX8_run_86 : decode cX8_run 86 = .ok (.getfield 126, 3) := by decide +kernel
theorem dX8_run_89 : decode cX8_run 89 = .ok (.if_icmp .ge 14, 3) := by decide +kernel
theorem dX8_run_92 : decode cX8_run 92 = .ok (.aload_n 0, 1) := by decide +kernel
theorem dX8_run_93 : decode cX8_run 93 = .ok (.getfield 78, 3) := by decide +kernel
theorem dX8_run_96 : decode cX8_run 96 = .ok (.iload_n 2, 1) := by decide +kernel
theorem dX8_run_97 : decode cX8_run 97 = .ok (.iconst 3, 1) := by decide +kernel
theorem dX8_run_98 : decode cX8_run 98 = .ok (.isub, 1) := by decide +kernel
theorem dX8_run_99 : decode cX8_run 99 = .ok (.iaload, 1) := by decide +kernel
theorem dX8_run_100 : decode cX8_run 100 = .ok (.goto 4, 3) := by decide +kernel
theorem dX8_run_103 : decode cX8_run 103 = .ok (.iconst 0, 1) := by decide +kernel
theorem dX8_run_104 : decode cX8_run 104 = .ok (.ireturn, 1) := by decide +kernel
theorem dX8_answers_0 : decode cX8_answers 0 = .ok (.aload_n 0, 1) := by decide +kernel
theorem dX8_answers_1 : decode cX8_answers 1 = .ok (.iload_n 1, 1) := by decide +kernel
theorem dX8_answers_2 : decode cX8_answers 2 = .ok (.iload_n 2, 1) := by decide +kernel
theorem dX8_answers_3 : decode cX8_answers 3 = .ok (.sipush 500, 3) := by decide +kernel
theorem dX8_answers_6 : decode cX8_answers 6 = .ok (.invokevirtual 148, 3) := by decide +kernel
theorem dX8_answers_9 : decode cX8_answers 9 = .ok (.aload_n 0, 1) := by decide +kernel
theorem dX8_answers_10 : decode cX8_answers 10 = .ok (.aload_n 0, 1) := by decide +kernel
theorem dX8_answers_11 : decode cX8_answers 11 = .ok (.getfield 126, 3) := by decide +kernel
theorem dX8_answers_14 : decode cX8_answers 14 = .ok (.putfield 152, 3) := by decide +kernel
theorem dX8_answers_17 : decode cX8_answers 17 = .ok (.iconst 0, 1) := by decide +kernel
theorem dX8_answers_18 : decode cX8_answers 18 = .ok (.istore_n 3, 1) := by decide +kernel
theorem dX8_answers_19 : decode cX8_answers 19 = .ok (.iload_n 3, 1) := by decide +kernel
theorem dX8_answers_20 : decode cX8_answers 20 = .ok (.aload_n 0, 1) := by decide +kernel
theorem dX8_answers_21 : decode cX8_answers 21 = .ok (.getfield 126, 3) := by decide +kernel
theorem dX8_answers_24 : decode cX8_answers 24 = .ok (.if_icmp .ge 21, 3) := by decide +kernel
theorem dX8_answers_27 : decode cX8_answers 27 = .ok (.aload_n 0, 1) := by decide +kernel
theorem dX8_answers_28 : decode cX8_answers 28 = .ok (.getfield 84, 3) := by decide +kernel
theorem dX8_answers_31 : decode cX8_answers 31 = .ok (.iload_n 3, 1) := by decide +kernel
theorem dX8_answers_32 : decode cX8_answers 32 = .ok (.aload_n 0, 1) := by decide +kernel
theorem dX8_answers_33 : decode cX8_answers 33 = .ok (.getfield 78, 3) := by decide +kernel
theorem dX8_answers_36 : decode cX8_answers 36 = .ok (.iload_n 3, 1) := by decide +kernel
theorem dX8_answers_37 : decode cX8_answers 37 = .ok (.iaload, 1) := by decide +kernel
theorem dX8_answers_38 : decode cX8_answers 38 = .ok (.iastore, 1) := by decide +kernel
theorem dX8_answers_39 : decode cX8_answers 39 = .ok (.iinc 3 1, 3) := by decide +kernel
theorem dX8_answers_42 : decode cX8_answers 42 = .ok (.goto (-23), 3) := by decide +kernel
theorem dX8_answers_45 : decode cX8_answers 45 = .ok (.aload_n 0, 1) := by decide +kernel
theorem dX8_answers_46 : decode cX8_answers 46 = .ok (.getfield 117, 3) := by decide +kernel
theorem dX8_answers_49 : decode cX8_answers 49 = .ok (.ifCond .ne 7, 3) := by decide +kernel
theorem dX8_answers_52 : decode cX8_answers 52 = .ok (.iconst 1, 1) := by decide +kernel
theorem dX8_answers_53 : decode cX8_answers 53 = .ok (.goto 4, 3) := by decide +kernel
theorem dX8_answers_56 : decode cX8_answers 56 = .ok (.iconst 0, 1) := by decide +kernel
theorem dX8_answers_57 : decode cX8_answers 57 = .ok (.ireturn, 1) := by decide +kernel
theorem dX8_isChecker_0 : decode cX8_isChecker 0 = .ok (.iload_n 0, 1) := by decide +kernel
theorem dX8_isChecker_1 : decode cX8_isChecker 1 = .ok (.iconst 0, 1) := by decide +kernel
theorem dX8_isChecker_2 : decode cX8_isChecker 2 = .ok (.iconst 1, 1) := by decide +kernel
theorem dX8_isChecker_3 : decode cX8_isChecker 3 = .ok (.invokestatic 108, 3) := by decide +kernel
theorem dX8_isChecker_6 : decode cX8_isChecker 6 = .ok (.ireturn, 1) := by decide +kernel
theorem dX8_problem_0 : decode cX8_problem 0 = .ok (.aload_n 0, 1) := by decide +kernel
theorem dX8_problem_1 : decode cX8_problem 1 = .ok (.iload_n 1, 1) := by decide +kernel
theorem dX8_problem_2 : decode cX8_problem 2 = .ok (.iconst 1, 1) := by decide +kernel
theorem dX8_problem_3 : decode cX8_problem 3 = .ok (.sipush 500, 3) := by decide +kernel
theorem dX8_problem_6 : decode cX8_problem 6 = .ok (.invokestatic 108, 3) := by decide +kernel
theorem dX8_problem_9 : decode cX8_problem 9 = .ok (.ifCond .eq 10, 3) := by decide +kernel
theorem dX8_problem_12 : decode cX8_problem 12 = .ok (.iload_n 2, 1) := by decide +kernel
theorem dX8_problem_13 : decode cX8_problem 13 = .ok (.invokestatic 155, 3) := by decide +kernel
theorem dX8_problem_16 : decode cX8_problem 16 = .ok (.ifCond .ne 7, 3) := by decide +kernel
theorem dX8_problem_19 : decode cX8_problem 19 = .ok (.iconst 1, 1) := by decide +kernel
theorem dX8_problem_20 : decode cX8_problem 20 = .ok (.goto 17, 3) := by decide +kernel
theorem dX8_problem_23 : decode cX8_problem 23 = .ok (.aload_n 0, 1) := by decide +kernel
theorem dX8_problem_24 : decode cX8_problem 24 = .ok (.getfield 105, 3) := by decide +kernel
theorem dX8_problem_27 : decode cX8_problem 27 = .ok (.bipush 6, 2) := by decide +kernel
theorem dX8_problem_29 : decode cX8_problem 29 = .ok (.if_icmp .ne 7, 3) := by decide +kernel
theorem dX8_problem_32 : decode cX8_problem 32 = .ok (.iconst 2, 1) := by decide +kernel
theorem dX8_problem_33 : decode cX8_problem 33 = .ok (.goto 4, 3) := by decide +kernel
theorem dX8_problem_36 : decode cX8_problem 36 = .ok (.iconst 0, 1) := by decide +kernel
theorem dX8_problem_37 : decode cX8_problem 37 = .ok (.putfield 102, 3) := by decide +kernel
theorem dX8_problem_40 : decode cX8_problem 40 = .ok (.aload_n 0, 1) := by decide +kernel
theorem dX8_problem_41 : decode cX8_problem 41 = .ok (.getfield 102, 3) := by decide +kernel
theorem dX8_problem_44 : decode cX8_problem 44 = .ok (.ifCond .le 5, 3) := by decide +kernel
theorem dX8_problem_47 : decode cX8_problem 47 = .ok (.iconst 0, 1) := by decide +kernel
theorem dX8_problem_48 : decode cX8_problem 48 = .ok (.ireturn, 1) := by decide +kernel
theorem dX8_problem_49 : decode cX8_problem 49 = .ok (.aload_n 0, 1) := by decide +kernel
theorem dX8_problem_50 : decode cX8_problem 50 = .ok (.getfield 25, 3) := by decide +kernel
theorem dX8_problem_53 : decode cX8_problem 53 = .ok (.aload_n 0, 1) := by decide +kernel
theorem dX8_problem_54 : decode cX8_problem 54 = .ok (.getfield 105, 3) := by decide +kernel
theorem dX8_problem_57 : decode cX8_problem 57 = .ok (.iload_n 1, 1) := by decide +kernel
theorem dX8_problem_58 : decode cX8_problem 58 = .ok (.iastore, 1) := by decide +kernel
theorem dX8_problem_59 : decode cX8_problem 59 = .ok (.aload_n 0, 1) := by decide +kernel
theorem dX8_problem_60 : decode cX8_problem 60 = .ok (.getfield 28, 3) := by decide +kernel
theorem dX8_problem_63 : decode cX8_problem 63 = .ok (.aload_n 0, 1) := by decide +kernel
theorem dX8_problem_64 : decode cX8_problem 64 = .ok (.getfield 105, 3) := by decide +kernel
theorem dX8_problem_67 : decode cX8_problem 67 = .ok (.iload_n 2, 1) := by decide +kernel
theorem dX8_problem_68 : decode cX8_problem 68 = .ok (.iastore, 1) := by decide +kernel
theorem dX8_problem_69 : decode cX8_problem 69 = .ok (.aload_n 0, 1) := by decide +kernel
theorem dX8_problem_70 : decode cX8_problem 70 = .ok (.iconst 0, 1) := by decide +kernel
theorem dX8_problem_71 : decode cX8_problem 71 = .ok (.iconst 1, 1) := by decide +kernel
theorem dX8_problem_72 : decode cX8_problem 72 = .ok (.aload_n 0, 1) := by decide +kernel
theorem dX8_problem_73 : decode cX8_problem 73 = .ok (.getfield 105, 3) := by decide +kernel
theorem dX8_problem_76 : decode cX8_problem 76 = .ok (.iadd, 1) := by decide +kernel
theorem dX8_problem_77 : decode cX8_problem 77 = .ok (.invokevirtual 159, 3) := by decide +kernel
theorem dX8_problem_80 : decode cX8_problem 80 = .ok (.aload_n 0, 1) := by decide +kernel
theorem dX8_problem_81 : decode cX8_problem 81 = .ok (.iconst 0, 1) := by decide +kernel
theorem dX8_problem_82 : decode cX8_problem 82 = .ok (.invokevirtual 145, 3) := by decide +kernel
theorem dX8_problem_85 : decode cX8_problem 85 = .ok (.aload_n 0, 1) := by decide +kernel
theorem dX8_problem_86 : decode cX8_problem 86 = .ok (.dup, 1) := by decide +kernel
theorem dX8_problem_87 : decode cX8_problem 87 = .ok (.getfield 105, 3) := by decide +kernel
theorem dX8_problem_90 : decode cX8_problem 90 = .ok (.iconst 1, 1) := by decide +kernel
theorem dX8_problem_91 : decode cX8_problem 91 = .ok (.iadd, 1) := by decide +kernel
theorem dX8_problem_92 : decode cX8_problem 92 = .ok (.putfield 105, 3) := by decide +kernel
theorem dX8_problem_95 : decode cX8_problem 95 = .ok (.aload_n 0, 1) := by decide +kernel
theorem dX8_problem_96 : decode cX8_problem 96 = .ok (.getfield 105, 3) := by decide +kernel
theorem dX8_problem_99 : decode cX8_problem 99 = .ok (.iconst 1, 1) := by decide +kernel
theorem dX8_problem_100 : decode cX8_problem 100 = .ok (.isub, 1) := by decide +kernel
theorem dX8_problem_101 : decode cX8_problem 101 = .ok (.ireturn, 1) := by decide +kernel
theorem dX8_becomes_0 : decode cX8_becomes 0 = .ok (.bipush 12, 2) := by decide +kernel
theorem dX8_becomes_2 : decode cX8_becomes 2 = .ok (.iload_n 1, 1) := by decide +kernel
theorem dX8_becomes_3 : decode cX8_becomes 3 = .ok (.imul, 1) := by decide +kernel
theorem dX8_becomes_4 : decode cX8_becomes 4 = .ok (.aload_n 0, 1) := by decide +kernel
theorem dX8_becomes_5 : decode cX8_becomes 5 = .ok (.getfield 34, 3) := by decide +kernel
theorem dX8_becomes_8 : decode cX8_becomes 8 = .ok (.iload_n 1, 1) := by decide +kernel
theorem dX8_becomes_9 : decode cX8_becomes 9 = .ok (.iaload, 1) := by decide +kernel
theorem dX8_becomes_10 : decode cX8_becomes 10 = .ok (.iadd, 1) := by decide +kernel
theorem dX8_becomes_11 : decode cX8_becomes 11 = .ok (.istore_n 3, 1) := by decide +kernel
theorem dX8_becomes_12 : decode cX8_becomes 12 = .ok (.iconst 0, 1) := by decide +kernel
theorem dX8_becomes_13 : decode cX8_becomes 13 = .ok (.istore 4, 2) := by decide +kernel
theorem dX8_becomes_15 : decode cX8_becomes 15 = .ok (.iload 4, 2) := by decide +kernel
theorem dX8_becomes_17 : decode cX8_becomes 17 = .ok (.aload_n 0, 1) := by decide +kernel
theorem dX8_becomes_18 : decode cX8_becomes 18 = .ok (.getfield 19, 3) := by decide +kernel
theorem dX8_becomes_21 : decode cX8_becomes 21 = .ok (.bipush 72, 2) := by decide +kernel
theorem dX8_becomes_23 : decode cX8_becomes 23 = .ok (.iaload, 1) := by decide +kernel
theorem dX8_becomes_24 : decode cX8_becomes 24 = .ok (.if_icmp .ge 31, 3) := by decide +kernel
theorem dX8_becomes_27 : decode cX8_becomes 27 = .ok (.aload_n 0, 1) := by decide +kernel
theorem dX8_becomes_28 : decode cX8_becomes 28 = .ok (.getfield 22, 3) := by decide +kernel
theorem dX8_becomes_31 : decode cX8_becomes 31 = .ok (.iconst 4, 1) := by decide +kernel
theorem dX8_becomes_32 : decode cX8_becomes 32 = .ok (.iload_n 3, 1) := by decide +kernel
theorem dX8_becomes_33 : decode cX8_becomes 33 = .ok (.imul, 1) := by decide +kernel
theorem dX8_becomes_34 : decode cX8_becomes 34 = .ok (.iload 4, 2) := by decide +kernel
theorem dX8_becomes_36 : decode cX8_becomes 36 = .ok (.iadd, 1) := by decide +kernel
theorem dX8_becomes_37 : decode cX8_becomes 37 = .ok (.aload_n 0, 1) := by decide +kernel
theorem dX8_becomes_38 : decode cX8_becomes 38 = .ok (.getfield 22, 3) := by decide +kernel
theorem dX8_becomes_41 : decode cX8_becomes 41 = .ok (.sipush 288, 3) := by decide +kernel
theorem dX8_becomes_44 : decode cX8_becomes 44 = .ok (.iload 4, 2) := by decide +kernel
theorem dX8_becomes_46 : decode cX8_becomes 46 = .ok (.iadd, 1) := by decide +kernel
theorem dX8_becomes_47 : decode cX8_becomes 47 = .ok (.iaload, 1) := by decide +kernel
theorem dX8_becomes_48 : decode cX8_becomes 48 = .ok (.iastore, 1) := by decide +kernel
theorem dX8_becomes_49 : decode cX8_becomes 49 = .ok (.iinc 4 1, 3) := by decide +kernel
theorem dX8_becomes_52 : decode cX8_becomes 52 = .ok (.goto (-37), 3) := by decide +kernel
theorem dX8_becomes_55 : decode cX8_becomes 55 = .ok (.aload_n 0, 1) := by decide +kernel
theorem dX8_becomes_56 : decode cX8_becomes 56 = .ok (.getfield 19, 3) := by decide +kernel
theorem dX8_becomes_59 : decode cX8_becomes 59 = .ok (.iload_n 3, 1) := by decide +kernel
theorem dX8_becomes_60 : decode cX8_becomes 60 = .ok (.aload_n 0, 1) := by decide +kernel
theorem dX8_becomes_61 : decode cX8_becomes 61 = .ok (.getfield 19, 3) := by decide +kernel
theorem dX8_becomes_64 : decode cX8_becomes 64 = .ok (.bipush 72, 2) := by decide +kernel
theorem dX8_becomes_66 : decode cX8_becomes 66 = .ok (.iaload, 1) := by decide +kernel
theorem dX8_becomes_67 : decode cX8_becomes 67 = .ok (.iastore, 1) := by decide +kernel
theorem dX8_becomes_68 : decode cX8_becomes 68 = .ok (.aload_n 0, 1) := by decide +kernel
theorem dX8_becomes_69 : decode cX8_becomes 69 = .ok (.getfield 37, 3) := by decide +kernel
theorem dX8_becomes_72 : decode cX8_becomes 72 = .ok (.iload_n 3, 1) := by decide +kernel
theorem dX8_becomes_73 : decode cX8_becomes 73 = .ok (.iload_n 2, 1) := by decide +kernel
theorem dX8_becomes_74 : decode cX8_becomes 74 = .ok (.iastore, 1) := by decide +kernel
theorem dX8_becomes_75 : decode cX8_becomes 75 = .ok (.aload_n 0, 1) := by decide +kernel
theorem dX8_becomes_76 : decode cX8_becomes 76 = .ok (.getfield 34, 3) := by decide +kernel
theorem dX8_becomes_79 : decode cX8_becomes 79 = .ok (.iload_n 1, 1) := by decide +kernel
theorem dX8_becomes_80 : decode cX8_becomes 80 = .ok (.dup2, 1) := by decide +kernel
theorem dX8_becomes_81 : decode cX8_becomes 81 = .ok (.iaload, 1) := by decide +kernel
theorem dX8_becomes_82 : decode cX8_becomes 82 = .ok (.iconst 1, 1) := by decide +kernel
theorem dX8_becomes_83 : decode cX8_becomes 83 = .ok (.iadd, 1) := by decide +kernel
theorem dX8_becomes_84 : decode cX8_becomes 84 = .ok (.iastore, 1) := by decide +kernel
theorem dX8_becomes_85 : decode cX8_becomes 85 = .ok (.aload_n 0, 1) := by decide +kernel
theorem dX8_becomes_86 : decode cX8_becomes 86 = .ok (.getfield 31, 3) := by decide +kernel
theorem dX8_becomes_89 : decode cX8_becomes 89 = .ok (.iload_n 1, 1) := by decide +kernel
theorem dX8_becomes_90 : decode cX8_becomes 90 = .ok (.dup2, 1) := by decide +kernel
theorem dX8_becomes_91 : decode cX8_becomes 91 = .ok (.iaload, 1) := by decide +kernel
theorem dX8_becomes_92 : decode cX8_becomes 92 = .ok (.iconst 1, 1) := by decide +kernel
theorem dX8_becomes_93 : decode cX8_becomes 93 = .ok (.iadd, 1) := by decide +kernel
theorem dX8_becomes_94 : decode cX8_becomes 94 = .ok (.iastore, 1) := by decide +kernel
theorem dX8_becomes_95 : decode cX8_becomes 95 = .ok (.return_, 1) := by decide +kernel
theorem dX8_test_0 : decode cX8_test 0 = .ok (.aload_n 0, 1) := by decide +kernel
theorem dX8_test_1 : decode cX8_test 1 = .ok (.aload_n 0, 1) := by decide +kernel
theorem dX8_test_2 : decode cX8_test 2 = .ok (.iload_n 1, 1) := by decide +kernel
theorem dX8_test_3 : decode cX8_test 3 = .ok (.invokevirtual 163, 3) := by decide +kernel
theorem dX8_test_6 : decode cX8_test 6 = .ok (.ifCond .eq 10, 3) := by decide +kernel
theorem dX8_test_9 : decode cX8_test 9 = .ok (.iload_n 2, 1) := by decide +kernel
theorem dX8_test_10 : decode cX8_test 10 = .ok (.invokestatic 166, 3) := by decide +kernel
theorem dX8_test_13 : decode cX8_test 13 = .ok (.ifCond .ne 7, 3) := by decide +kernel
theorem dX8_test_16 : decode cX8_test 16 = .ok (.iconst 1, 1) := by decide +kernel
theorem dX8_test_17 : decode cX8_test 17 = .ok (.goto 4, 3) := by decide +kernel
theorem dX8_test_20 : decode cX8_test 20 = .ok (.iconst 0, 1) := by decide +kernel
theorem dX8_test_21 : decode cX8_test 21 = .ok (.putfield 102, 3) := by decide +kernel
theorem dX8_test_24 : decode cX8_test 24 = .ok (.aload_n 0, 1) := by decide +kernel
theorem dX8_test_25 : decode cX8_test 25 = .ok (.getfield 102, 3) := by decide +kernel
theorem dX8_test_28 : decode cX8_test 28 = .ok (.ifCond .le 5, 3) := by decide +kernel
theorem dX8_test_31 : decode cX8_test 31 = .ok (.iconst 0, 1) := by decide +kernel
theorem dX8_test_32 : decode cX8_test 32 = .ok (.ireturn, 1) := by decide +kernel
theorem dX8_test_33 : decode cX8_test 33 = .ok (.aload_n 0, 1) := by decide +kernel
theorem dX8_test_34 : decode cX8_test 34 = .ok (.aload_n 0, 1) := by decide +kernel
theorem dX8_test_35 : decode cX8_test 35 = .ok (.getfield 34, 3) := by decide +kernel
theorem dX8_test_38 : decode cX8_test 38 = .ok (.iload_n 1, 1) := by decide +kernel
theorem dX8_test_39 : decode cX8_test 39 = .ok (.iaload, 1) := by decide +kernel
theorem dX8_test_40 : decode cX8_test 40 = .ok (.bipush 12, 2) := by decide +kernel
theorem dX8_test_42 : decode cX8_test 42 = .ok (.if_icmp .eq 15, 3) := by decide +kernel
theorem dX8_test_45 : decode cX8_test 45 = .ok (.aload_n 0, 1) := by decide +kernel
theorem dX8_test_46 : decode cX8_test 46 = .ok (.iconst 1, 1) := by decide +kernel
theorem dX8_test_47 : decode cX8_test 47 = .ok (.iload_n 1, 1) := by decide +kernel
theorem dX8_test_48 : decode cX8_test 48 = .ok (.iadd, 1) := by decide +kernel
theorem dX8_test_49 : decode cX8_test 49 = .ok (.bipush 72, 2) := by decide +kernel
theorem dX8_test_51 : decode cX8_test 51 = .ok (.invokevirtual 169, 3) := by decide +kernel
theorem dX8_test_54 : decode cX8_test 54 = .ok (.ifCond .ne 7, 3) := by decide +kernel
theorem dX8_test_57 : decode cX8_test 57 = .ok (.iconst 2, 1) := by decide +kernel
theorem dX8_test_58 : decode cX8_test 58 = .ok (.goto 4, 3) := by decide +kernel
theorem dX8_test_61 : decode cX8_test 61 = .ok (.iconst 0, 1) := by decide +kernel
theorem dX8_test_62 : decode cX8_test 62 = .ok (.putfield 102, 3) := by decide +kernel
theorem dX8_test_65 : decode cX8_test 65 = .ok (.aload_n 0, 1) := by decide +kernel
theorem dX8_test_66 : decode cX8_test 66 = .ok (.getfield 102, 3) := by decide +kernel
theorem dX8_test_69 : decode cX8_test 69 = .ok (.ifCond .le 5, 3) := by decide +kernel
theorem dX8_test_72 : decode cX8_test 72 = .ok (.iconst 0, 1) := by decide +kernel
theorem dX8_test_73 : decode cX8_test 73 = .ok (.ireturn, 1) := by decide +kernel
theorem dX8_test_74 : decode cX8_test 74 = .ok (.aload_n 0, 1) := by decide +kernel
theorem dX8_test_75 : decode cX8_test 75 = .ok (.iload_n 1, 1) := by decide +kernel
theorem dX8_test_76 : decode cX8_test 76 = .ok (.iload_n 2, 1) := by decide +kernel
theorem dX8_test_77 : decode cX8_test 77 = .ok (.invokevirtual 173, 3) := by decide +kernel
theorem dX8_test_80 : decode cX8_test 80 = .ok (.aload_n 0, 1) := by decide +kernel
theorem dX8_test_81 : decode cX8_test 81 = .ok (.getfield 19, 3) := by decide +kernel
theorem dX8_test_84 : decode cX8_test 84 = .ok (.bipush 72, 2) := by decide +kernel
theorem dX8_test_86 : decode cX8_test 86 = .ok (.iconst 0, 1) := by decide +kernel
theorem dX8_test_87 : decode cX8_test 87 = .ok (.iastore, 1) := by decide +kernel
theorem dX8_test_88 : decode cX8_test 88 = .ok (.aload_n 0, 1) := by decide +kernel
theorem dX8_test_89 : decode cX8_test 89 = .ok (.getfield 34, 3) := by decide +kernel
theorem dX8_test_92 : decode cX8_test 92 = .ok (.iload_n 1, 1) := by decide +kernel
theorem dX8_test_93 : decode cX8_test 93 = .ok (.iaload, 1) := by decide +kernel
theorem dX8_test_94 : decode cX8_test 94 = .ok (.iconst 1, 1) := by decide +kernel
theorem dX8_test_95 : decode cX8_test 95 = .ok (.isub, 1) := by decide +kernel
theorem dX8_test_96 : decode cX8_test 96 = .ok (.ireturn, 1) := by decide +kernel
theorem dX8_points_0 : decode cX8_points 0 = .ok (.aload_n 0, 1) := by decide +kernel
theorem dX8_points_1 : decode cX8_points 1 = .ok (.aload_n 0, 1) := by decide +kernel
theorem dX8_points_2 : decode cX8_points 2 = .ok (.iload_n 1, 1) := by decide +kernel
theorem dX8_points_3 : decode cX8_points 3 = .ok (.invokevirtual 163, 3) := by decide +kernel
theorem dX8_points_6 : decode cX8_points 6 = .ok (.ifCond .eq 10, 3) := by decide +kernel
theorem dX8_points_9 : decode cX8_points 9 = .ok (.iload_n 2, 1) := by decide +kernel
theorem dX8_points_10 : decode cX8_points 10 = .ok (.invokestatic 166, 3) := by decide +kernel
theorem dX8_points_13 : decode cX8_points 13 = .ok (.ifCond .ne 7, 3) := by decide +kernel
theorem dX8_points_16 : decode cX8_points 16 = .ok (.iconst 1, 1) := by decide +kernel
theorem dX8_points_17 : decode cX8_points 17 = .ok (.goto 18, 3) := by decide +kernel
theorem dX8_points_20 : decode cX8_points 20 = .ok (.iload_n 3, 1) := by decide +kernel
theorem dX8_points_21 : decode cX8_points 21 = .ok (.iconst 0, 1) := by decide +kernel
theorem dX8_points_22 : decode cX8_points 22 = .ok (.bipush 100, 2) := by decide +kernel
theorem dX8_points_24 : decode cX8_points 24 = .ok (.invokestatic 108, 3) := by decide +kernel
theorem dX8_points_27 : decode cX8_points 27 = .ok (.ifCond .ne 7, 3) := by decide +kernel
theorem dX8_points_30 : decode cX8_points 30 = .ok (.iconst 2, 1) := by decide +kernel
theorem dX8_points_31 : decode cX8_points 31 = .ok (.goto 4, 3) := by decide +kernel
theorem dX8_points_34 : decode cX8_points 34 = .ok (.iconst 0, 1) := by decide +kernel
theorem dX8_points_35 : decode cX8_points 35 = .ok (.putfield 102, 3) := by decide +kernel
theorem dX8_points_38 : decode cX8_points 38 = .ok (.aload_n 0, 1) := by decide +kernel
theorem dX8_points_39 : decode cX8_points 39 = .ok (.getfield 102, 3) := by decide +kernel
theorem dX8_points_42 : decode cX8_points 42 = .ok (.ifCond .le 5, 3) := by decide +kernel
theorem dX8_points_45 : decode cX8_points 45 = .ok (.iconst 0, 1) := by decide +kernel
theorem dX8_points_46 : decode cX8_points 46 = .ok (.ireturn, 1) := by decide +kernel
theorem dX8_points_47 : decode cX8_points 47 = .ok (.aload_n 0, 1) := by decide +kernel
theorem dX8_points_48 : decode cX8_points 48 = .ok (.getfield 40, 3) := by decide +kernel
theorem dX8_points_51 : decode cX8_points 51 = .ok (.iconst 4, 1) := by decide +kernel
theorem dX8_points_52 : decode cX8_points 52 = .ok (.iload_n 1, 1) := by decide +kernel
theorem dX8_points_53 : decode cX8_points 53 = .ok (.imul, 1) := by decide +kernel
theorem dX8_points_54 : decode cX8_points 54 = .ok (.iload_n 2, 1) := by decide +kernel
theorem dX8_points_55 : decode cX8_points 55 = .ok (.iadd, 1) := by decide +kernel
theorem dX8_points_56 : decode cX8_points 56 = .ok (.iaload, 1) := by decide +kernel
theorem dX8_points_57 : decode cX8_points 57 = .ok (.istore 4, 2) := by decide +kernel
theorem dX8_points_59 : decode cX8_points 59 = .ok (.aload_n 0, 1) := by decide +kernel
theorem dX8_points_60 : decode cX8_points 60 = .ok (.getfield 40, 3) := by decide +kernel
theorem dX8_points_63 : decode cX8_points 63 = .ok (.iconst 4, 1) := by decide +kernel
theorem dX8_points_64 : decode cX8_points 64 = .ok (.iload_n 1, 1) := by decide +kernel
theorem dX8_points_65 : decode cX8_points 65 = .ok (.imul, 1) := by decide +kernel
theorem dX8_points_66 : decode cX8_points 66 = .ok (.iload_n 2, 1) := by decide +kernel
theorem dX8_points_67 : decode cX8_points 67 = .ok (.iadd, 1) := by decide +kernel
theorem dX8_points_68 : decode cX8_points 68 = .ok (.iload_n 3, 1) := by decide +kernel
theorem dX8_points_69 : decode cX8_points 69 = .ok (.iastore, 1) := by decide +kernel
theorem dX8_points_70 : decode cX8_points 70 = .ok (.iload 4, 2) := by decide +kernel
theorem dX8_points_72 : decode cX8_points 72 = .ok (.ireturn, 1) := by decide +kernel
theorem dX8_mend_0 : decode cX8_mend 0 = .ok (.aload_n 0, 1) := by decide +kernel
theorem dX8_mend_1 : decode cX8_mend 1 = .ok (.aload_n 0, 1) := by decide +kernel
theorem dX8_mend_2 : decode cX8_mend 2 = .ok (.iload_n 1, 1) := by decide +kernel
theorem dX8_mend_3 : decode cX8_mend 3 = .ok (.invokevirtual 163, 3) := by decide +kernel
theorem dX8_mend_6 : decode cX8_mend 6 = .ok (.ifCond .ne 7, 3) := by decide +kernel
theorem dX8_mend_9 : decode cX8_mend 9 = .ok (.iconst 1, 1) := by decide +kernel
theorem dX8_mend_10 : decode cX8_mend 10 = .ok (.goto 15, 3) := by decide +kernel
theorem dX8_mend_13 : decode cX8_mend 13 = .ok (.iload_n 2, 1) := by decide +kernel
theorem dX8_mend_14 : decode cX8_mend 14 = .ok (.invokestatic 155, 3) := by decide +kernel
theorem dX8_mend_17 : decode cX8_mend 17 = .ok (.ifCond .ne 7, 3) := by decide +kernel
theorem dX8_mend_20 : decode cX8_mend 20 = .ok (.iconst 2, 1) := by decide +kernel
theorem dX8_mend_21 : decode cX8_mend 21 = .ok (.goto 4, 3) := by decide +kernel
theorem dX8_mend_24 : decode cX8_mend 24 = .ok (.iconst 0, 1) := by decide +kernel
theorem dX8_mend_25 : decode cX8_mend 25 = .ok (.putfield 102, 3) := by decide +kernel
theorem dX8_mend_28 : decode cX8_mend 28 = .ok (.aload_n 0, 1) := by decide +kernel
theorem dX8_mend_29 : decode cX8_mend 29 = .ok (.getfield 102, 3) := by decide +kernel
theorem dX8_mend_32 : decode cX8_mend 32 = .ok (.ifCond .le 5, 3) := by decide +kernel
theorem dX8_mend_35 : decode cX8_mend 35 = .ok (.iconst 0, 1) := by decide +kernel
theorem dX8_mend_36 : decode cX8_mend 36 = .ok (.ireturn, 1) := by decide +kernel
theorem dX8_mend_37 : decode cX8_mend 37 = .ok (.iconst 1, 1) := by decide +kernel
theorem dX8_mend_38 : decode cX8_mend 38 = .ok (.istore_n 3, 1) := by decide +kernel
theorem dX8_mend_39 : decode cX8_mend 39 = .ok (.iconst 0, 1) := by decide +kernel
theorem dX8_mend_40 : decode cX8_mend 40 = .ok (.istore 4, 2) := by decide +kernel
theorem dX8_mend_42 : decode cX8_mend 42 = .ok (.iload 4, 2) := by decide +kernel
theorem dX8_mend_44 : decode cX8_mend 44 = .ok (.aload_n 0, 1) := by decide +kernel
theorem dX8_mend_45 : decode cX8_mend 45 = .ok (.getfield 34, 3) := by decide +kernel
theorem dX8_mend_48 : decode cX8_mend 48 = .ok (.iload_n 1, 1) := by decide +kernel
theorem dX8_mend_49 : decode cX8_mend 49 = .ok (.iaload, 1) := by decide +kernel
theorem dX8_mend_50 : decode cX8_mend 50 = .ok (.if_icmp .ge 33, 3) := by decide +kernel
theorem dX8_mend_53 : decode cX8_mend 53 = .ok (.aload_n 0, 1) := by decide +kernel
theorem dX8_mend_54 : decode cX8_mend 54 = .ok (.getfield 7, 3) := by decide +kernel
theorem dX8_mend_57 : decode cX8_mend 57 = .ok (.iconst 0, 1) := by decide +kernel
theorem dX8_mend_58 : decode cX8_mend 58 = .ok (.iaload, 1) := by decide +kernel
theorem dX8_mend_59 : decode cX8_mend 59 = .ok (.ifCond .le 24, 3) := by decide +kernel
theorem dX8_mend_62 : decode cX8_mend 62 = .ok (.iload_n 3, 1) := by decide +kernel
theorem dX8_mend_63 : decode cX8_mend 63 = .ok (.aload_n 0, 1) := by decide +kernel
theorem dX8_mend_64 : decode cX8_mend 64 = .ok (.iconst 0, 1) := by decide +kernel
theorem dX8_mend_65 : decode cX8_mend 65 = .ok (.bipush 12, 2) := by decide +kernel
theorem dX8_mend_67 : decode cX8_mend 67 = .ok (.iload_n 1, 1) := by decide +kernel
theorem dX8_mend_68 : decode cX8_mend 68 = .ok (.imul, 1) := by decide +kernel
theorem dX8_mend_69 : decode cX8_mend 69 = .ok (.iload 4, 2) := by decide +kernel
theorem dX8_mend_71 : decode cX8_mend 71 = .ok (.iadd, 1) := by decide +kernel
theorem dX8_mend_72 : decode cX8_mend 72 = .ok (.invokevirtual 169, 3) := by decide +kernel
theorem dX8_mend_75 : decode cX8_mend 75 = .ok (.iand, 1) := by decide +kernel
theorem dX8_mend_76 : decode cX8_mend 76 = .ok (.istore_n 3, 1) := by decide +kernel
theorem dX8_mend_77 : decode cX8_mend 77 = .ok (.iinc 4 1, 3) := by decide +kernel
theorem dX8_mend_80 : decode cX8_mend 80 = .ok (.goto (-38), 3) := by decide +kernel
theorem dX8_mend_83 : decode cX8_mend 83 = .ok (.aload_n 0, 1) := by decide +kernel
theorem dX8_mend_84 : decode cX8_mend 84 = .ok (.iload_n 3, 1) := by decide +kernel
theorem dX8_mend_85 : decode cX8_mend 85 = .ok (.ifCond .eq 7, 3) := by decide +kernel
theorem dX8_mend_88 : decode cX8_mend 88 = .ok (.iconst 0, 1) := by decide +kernel
theorem dX8_mend_89 : decode cX8_mend 89 = .ok (.goto 4, 3) := by decide +kernel
theorem dX8_mend_92 : decode cX8_mend 92 = .ok (.iconst 3, 1) := by decide +kernel
theorem dX8_mend_93 : decode cX8_mend 93 = .ok (.putfield 102, 3) := by decide +kernel
theorem dX8_mend_96 : decode cX8_mend 96 = .ok (.aload_n 0, 1) := by decide +kernel
theorem dX8_mend_97 : decode cX8_mend 97 = .ok (.getfield 102, 3) := by decide +kernel
theorem dX8_mend_100 : decode cX8_mend 100 = .ok (.ifCond .le 5, 3) := by decide +kernel
theorem dX8_mend_103 : decode cX8_mend 103 = .ok (.iconst 0, 1) := by decide +kernel
theorem dX8_mend_104 : decode cX8_mend 104 = .ok (.ireturn, 1) := by decide +kernel
theorem dX8_mend_105 : decode cX8_mend 105 = .ok (.aload_n 0, 1) := by decide +kernel
theorem dX8_mend_106 : decode cX8_mend 106 = .ok (.getfield 7, 3) := by decide +kernel
theorem dX8_mend_109 : decode cX8_mend 109 = .ok (.iconst 0, 1) := by decide +kernel
theorem dX8_mend_110 : decode cX8_mend 110 = .ok (.iaload, 1) := by decide +kernel
theorem dX8_mend_111 : decode cX8_mend 111 = .ok (.ifCond .le 16, 3) := by decide +kernel
theorem dX8_mend_114 : decode cX8_mend 114 = .ok (.aload_n 0, 1) := by decide +kernel
theorem dX8_mend_115 : decode cX8_mend 115 = .ok (.iconst 0, 1) := by decide +kernel
theorem dX8_mend_116 : decode cX8_mend 116 = .ok (.iconst 1, 1) := by decide +kernel
theorem dX8_mend_117 : decode cX8_mend 117 = .ok (.iload_n 1, 1) := by decide +kernel
theorem dX8_mend_118 : decode cX8_mend 118 = .ok (.iadd, 1) := by decide +kernel
theorem dX8_mend_119 : decode cX8_mend 119 = .ok (.invokevirtual 159, 3) := by decide +kernel
theorem dX8_mend_122 : decode cX8_mend 122 = .ok (.aload_n 0, 1) := by decide +kernel
theorem dX8_mend_123 : decode cX8_mend 123 = .ok (.iconst 0, 1) := by decide +kernel
theorem dX8_mend_124 : decode cX8_mend 124 = .ok (.invokevirtual 145, 3) := by decide +kernel
theorem dX8_mend_127 : decode cX8_mend 127 = .ok (.aload_n 0, 1) := by decide +kernel
theorem dX8_mend_128 : decode cX8_mend 128 = .ok (.getfield 28, 3) := by decide +kernel
theorem dX8_mend_131 : decode cX8_mend 131 = .ok (.iload_n 1, 1) := by decide +kernel
theorem dX8_mend_132 : decode cX8_mend 132 = .ok (.iload_n 2, 1) := by decide +kernel
theorem dX8_mend_133 : decode cX8_mend 133 = .ok (.iastore, 1) := by decide +kernel
theorem dX8_mend_134 : decode cX8_mend 134 = .ok (.aload_n 0, 1) := by decide +kernel
theorem dX8_mend_135 : decode cX8_mend 135 = .ok (.getfield 31, 3) := by decide +kernel
theorem dX8_mend_138 : decode cX8_mend 138 = .ok (.iload_n 1, 1) := by decide +kernel
theorem dX8_mend_139 : decode cX8_mend 139 = .ok (.dup2, 1) := by decide +kernel
theorem dX8_mend_140 : decode cX8_mend 140 = .ok (.iaload, 1) := by decide +kernel
theorem dX8_mend_141 : decode cX8_mend 141 = .ok (.iconst 1, 1) := by decide +kernel
theorem dX8_mend_142 : decode cX8_mend 142 = .ok (.iadd, 1) := by decide +kernel
theorem dX8_mend_143 : decode cX8_mend 143 = .ok (.iastore, 1) := by decide +kernel
theorem dX8_mend_144 : decode cX8_mend 144 = .ok (.aload_n 0, 1) := by decide +kernel
theorem dX8_mend_145 : decode cX8_mend 145 = .ok (.getfield 31, 3) := by decide +kernel
theorem dX8_mend_148 : decode cX8_mend 148 = .ok (.iload_n 1, 1) := by decide +kernel
theorem dX8_mend_149 : decode cX8_mend 149 = .ok (.iaload, 1) := by decide +kernel
theorem dX8_mend_150 : decode cX8_mend 150 = .ok (.ireturn, 1) := by decide +kernel
theorem dX8_answer_0 : decode cX8_answer 0 = .ok (.aload_n 0, 1) := by decide +kernel
theorem dX8_answer_1 : decode cX8_answer 1 = .ok (.aload_n 0, 1) := by decide +kernel
theorem dX8_answer_2 : decode cX8_answer 2 = .ok (.iload_n 1, 1) := by decide +kernel
theorem dX8_answer_3 : decode cX8_answer 3 = .ok (.invokevirtual 163, 3) := by decide +kernel
theorem dX8_answer_6 : decode cX8_answer 6 = .ok (.ifCond .eq 23, 3) := by decide +kernel
theorem dX8_answer_9 : decode cX8_answer 9 = .ok (.iload_n 2, 1) := by decide +kernel
theorem dX8_answer_10 : decode cX8_answer 10 = .ok (.iconst 0, 1) := by decide +kernel
theorem dX8_answer_11 : decode cX8_answer 11 = .ok (.aload_n 0, 1) := by decide +kernel
theorem dX8_answer_12 : decode cX8_answer 12 = .ok (.getfield 34, 3) := by decide +kernel
theorem dX8_answer_15 : decode cX8_answer 15 = .ok (.iload_n 1, 1) := by decide +kernel
theorem dX8_answer_16 : decode cX8_answer 16 = .ok (.iaload, 1) := by decide +kernel
theorem dX8_answer_17 : decode cX8_answer 17 = .ok (.iconst 1, 1) := by decide +kernel
theorem dX8_answer_18 : decode cX8_answer 18 = .ok (.isub, 1) := by decide +kernel
theorem dX8_answer_19 : decode cX8_answer 19 = .ok (.invokestatic 108, 3) := by decide +kernel
theorem dX8_answer_22 : decode cX8_answer 22 = .ok (.ifCond .eq 7, 3) := by decide +kernel
theorem dX8_answer_25 : decode cX8_answer 25 = .ok (.iload_n 3, 1) := by decide +kernel
theorem dX8_answer_26 : decode cX8_answer 26 = .ok (.ifCond .ge 7, 3) := by decide +kernel
theorem dX8_answer_29 : decode cX8_answer 29 = .ok (.iconst 1, 1) := by decide +kernel
theorem dX8_answer_30 : decode cX8_answer 30 = .ok (.goto 4, 3) := by decide +kernel
theorem dX8_answer_33 : decode cX8_answer 33 = .ok (.iconst 0, 1) := by decide +kernel
theorem dX8_answer_34 : decode cX8_answer 34 = .ok (.putfield 102, 3) := by decide +kernel
theorem dX8_answer_37 : decode cX8_answer 37 = .ok (.aload_n 0, 1) := by decide +kernel
theorem dX8_answer_38 : decode cX8_answer 38 = .ok (.getfield 102, 3) := by decide +kernel
theorem dX8_answer_41 : decode cX8_answer 41 = .ok (.ifCond .le 5, 3) := by decide +kernel
theorem dX8_answer_44 : decode cX8_answer 44 = .ok (.iconst 0, 1) := by decide +kernel
theorem dX8_answer_45 : decode cX8_answer 45 = .ok (.ireturn, 1) := by decide +kernel
theorem dX8_answer_46 : decode cX8_answer 46 = .ok (.aload_n 0, 1) := by decide +kernel
theorem dX8_answer_47 : decode cX8_answer 47 = .ok (.iconst 1, 1) := by decide +kernel
theorem dX8_answer_48 : decode cX8_answer 48 = .ok (.iload_n 1, 1) := by decide +kernel
theorem dX8_answer_49 : decode cX8_answer 49 = .ok (.iadd, 1) := by decide +kernel
theorem dX8_answer_50 : decode cX8_answer 50 = .ok (.bipush 12, 2) := by decide +kernel
theorem dX8_answer_52 : decode cX8_answer 52 = .ok (.iload_n 1, 1) := by decide +kernel
theorem dX8_answer_53 : decode cX8_answer 53 = .ok (.imul, 1) := by decide +kernel
theorem dX8_answer_54 : decode cX8_answer 54 = .ok (.iload_n 2, 1) := by decide +kernel
theorem dX8_answer_55 : decode cX8_answer 55 = .ok (.iadd, 1) := by decide +kernel
theorem dX8_answer_56 : decode cX8_answer 56 = .ok (.invokevirtual 169, 3) := by decide +kernel
theorem dX8_answer_59 : decode cX8_answer 59 = .ok (.istore 4, 2) := by decide +kernel
theorem dX8_answer_61 : decode cX8_answer 61 = .ok (.iload 4, 2) := by decide +kernel
theorem dX8_answer_63 : decode cX8_answer 63 = .ok (.ifCond .eq 20, 3) := by decide +kernel
theorem dX8_answer_66 : decode cX8_answer 66 = .ok (.iload_n 3, 1) := by decide +kernel
theorem dX8_answer_67 : decode cX8_answer 67 = .ok (.aload_n 0, 1) := by decide +kernel
theorem dX8_answer_68 : decode cX8_answer 68 = .ok (.getfield 152, 3) := by decide +kernel
theorem dX8_answer_71 : decode cX8_answer 71 = .ok (.if_icmp .ge 12, 3) := by decide +kernel
theorem dX8_answer_74 : decode cX8_answer 74 = .ok (.aload_n 0, 1) := by decide +kernel
theorem dX8_answer_75 : decode cX8_answer 75 = .ok (.getfield 84, 3) := by decide +kernel
theorem dX8_answer_78 : decode cX8_answer 78 = .ok (.iload_n 3, 1) := by decide +kernel
theorem dX8_answer_79 : decode cX8_answer 79 = .ok (.iaload, 1) := by decide +kernel
theorem dX8_answer_80 : decode cX8_answer 80 = .ok (.goto 4, 3) := by decide +kernel
theorem dX8_answer_83 : decode cX8_answer 83 = .ok (.iconst 0, 1) := by decide +kernel
theorem dX8_answer_84 : decode cX8_answer 84 = .ok (.ireturn, 1) := by decide +kernel
theorem dX8_does_0 : decode cX8_does 0 = .ok (.aload_n 0, 1) := by decide +kernel
theorem dX8_does_1 : decode cX8_does 1 = .ok (.iconst 1, 1) := by decide +kernel
theorem dX8_does_2 : decode cX8_does 2 = .ok (.iload_n 1, 1) := by decide +kernel
theorem dX8_does_3 : decode cX8_does 3 = .ok (.iadd, 1) := by decide +kernel
theorem dX8_does_4 : decode cX8_does 4 = .ok (.iload_n 3, 1) := by decide +kernel
theorem dX8_does_5 : decode cX8_does 5 = .ok (.invokevirtual 169, 3) := by decide +kernel
theorem dX8_does_8 : decode cX8_does 8 = .ok (.istore 4, 2) := by decide +kernel
theorem dX8_does_10 : decode cX8_does 10 = .ok (.aload_n 0, 1) := by decide +kernel
theorem dX8_does_11 : decode cX8_does 11 = .ok (.iload_n 2, 1) := by decide +kernel
theorem dX8_does_12 : decode cX8_does 12 = .ok (.iload_n 3, 1) := by decide +kernel
theorem dX8_does_13 : decode cX8_does 13 = .ok (.aload_n 0, 1) := by decide +kernel
theorem dX8_does_14 : decode cX8_does 14 = .ok (.getfield 25, 3) := by decide +kernel
theorem dX8_does_17 : decode cX8_does 17 = .ok (.iload_n 1, 1) := by decide +kernel
theorem dX8_does_18 : decode cX8_does 18 = .ok (.iaload, 1) := by decide +kernel
theorem dX8_does_19 : decode cX8_does 19 = .ok (.invokevirtual 148, 3) := by decide +kernel
theorem dX8_does_22 : decode cX8_does 22 = .ok (.aload_n 0, 1) := by decide +kernel
theorem dX8_does_23 : decode cX8_does 23 = .ok (.getfield 117, 3) := by decide +kernel
theorem dX8_does_26 : decode cX8_does 26 = .ok (.ifCond .eq 8, 3) := by decide +kernel
theorem dX8_does_29 : decode cX8_does 29 = .ok (.aload_n 0, 1) := by decide +kernel
theorem dX8_does_30 : decode cX8_does 30 = .ok (.getfield 117, 3) := by decide +kernel
theorem dX8_does_33 : decode cX8_does 33 = .ok (.ireturn, 1) := by decide +kernel
theorem dX8_does_34 : decode cX8_does 34 = .ok (.aload_n 0, 1) := by decide +kernel
theorem dX8_does_35 : decode cX8_does 35 = .ok (.getfield 126, 3) := by decide +kernel
theorem dX8_does_38 : decode cX8_does 38 = .ok (.aload_n 0, 1) := by decide +kernel
theorem dX8_does_39 : decode cX8_does 39 = .ok (.getfield 152, 3) := by decide +kernel
theorem dX8_does_42 : decode cX8_does 42 = .ok (.if_icmp .ne 7, 3) := by decide +kernel
theorem dX8_does_45 : decode cX8_does 45 = .ok (.iconst 1, 1) := by decide +kernel
theorem dX8_does_46 : decode cX8_does 46 = .ok (.goto 4, 3) := by decide +kernel
theorem dX8_does_49 : decode cX8_does 49 = .ok (.iconst 0, 1) := by decide +kernel
theorem dX8_does_50 : decode cX8_does 50 = .ok (.istore 5, 2) := by decide +kernel
theorem dX8_does_52 : decode cX8_does 52 = .ok (.aload_n 0, 1) := by decide +kernel
theorem dX8_does_53 : decode cX8_does 53 = .ok (.getfield 28, 3) := by decide +kernel
theorem dX8_does_56 : decode cX8_does 56 = .ok (.iload_n 1, 1) := by decide +kernel
theorem dX8_does_57 : decode cX8_does 57 = .ok (.iaload, 1) := by decide +kernel
theorem dX8_does_58 : decode cX8_does 58 = .ok (.iconst 1, 1) := by decide +kernel
theorem dX8_does_59 : decode cX8_does 59 = .ok (.if_icmp .ne 7, 3) := by decide +kernel
theorem dX8_does_62 : decode cX8_does 62 = .ok (.iconst 1, 1) := by decide +kernel
theorem dX8_does_63 : decode cX8_does 63 = .ok (.goto 4, 3) := by decide +kernel
theorem dX8_does_66 : decode cX8_does 66 = .ok (.iconst 0, 1) := by decide +kernel
theorem dX8_does_67 : decode cX8_does 67 = .ok (.istore 6, 2) := by decide +kernel
theorem dX8_does_69 : decode cX8_does 69 = .ok (.iconst 0, 1) := by decide +kernel
theorem dX8_does_70 : decode cX8_does 70 = .ok (.istore 7, 2) := by decide +kernel
theorem dX8_does_72 : decode cX8_does 72 = .ok (.iload 7, 2) := by decide +kernel
theorem dX8_does_74 : decode cX8_does 74 = .ok (.aload_n 0, 1) := by decide +kernel
theorem dX8_does_75 : decode cX8_does 75 = .ok (.getfield 126, 3) := by decide +kernel
theorem dX8_does_78 : decode cX8_does 78 = .ok (.if_icmp .ge 39, 3) := by decide +kernel
theorem dX8_does_81 : decode cX8_does 81 = .ok (.iload 5, 2) := by decide +kernel
theorem dX8_does_83 : decode cX8_does 83 = .ok (.ifCond .eq 34, 3) := by decide +kernel
theorem dX8_does_86 : decode cX8_does 86 = .ok (.aload_n 0, 1) := by decide +kernel
theorem dX8_does_87 : decode cX8_does 87 = .ok (.getfield 78, 3) := by decide +kernel
theorem dX8_does_90 : decode cX8_does 90 = .ok (.iload 7, 2) := by decide +kernel
theorem dX8_does_92 : decode cX8_does 92 = .ok (.iaload, 1) := by decide +kernel
theorem dX8_does_93 : decode cX8_does 93 = .ok (.aload_n 0, 1) := by decide +kernel
theorem dX8_does_94 : decode cX8_does 94 = .ok (.getfield 84, 3) := by decide +kernel
theorem dX8_does_97 : decode cX8_does 97 = .ok (.iload 7, 2) := by decide +kernel
theorem dX8_does_99 : decode cX8_does 99 = .ok (.iaload, 1) := by decide +kernel
theorem dX8_does_100 : decode cX8_does 100 = .ok (.isub, 1) := by decide +kernel
theorem dX8_does_101 : decode cX8_does 101 = .ok (.iload 6, 2) := by decide +kernel
theorem dX8_does_103 : decode cX8_does 103 = .ok (.ineg, 1) := by decide +kernel
theorem dX8_does_104 : decode cX8_does 104 = .ok (.iload 6, 2) := by decide +kernel
theorem dX8_does_106 : decode cX8_does 106 = .ok (.invokestatic 108, 3) := by decide +kernel
theorem dX8_does_109 : decode cX8_does 109 = .ok (.istore 5, 2) := by decide +kernel
theorem dX8_does_111 : decode cX8_does 111 = .ok (.iinc 7 1, 3) := by decide +kernel
theorem dX8_does_114 : decode cX8_does 114 = .ok (.goto (-42), 3) := by decide +kernel
theorem dX8_does_117 : decode cX8_does 117 = .ok (.iload 5, 2) := by decide +kernel
theorem dX8_does_119 : decode cX8_does 119 = .ok (.ifCond .eq 7, 3) := by decide +kernel
theorem dX8_does_122 : decode cX8_does 122 = .ok (.iconst 0, 1) := by decide +kernel
theorem dX8_does_123 : decode cX8_does 123 = .ok (.goto 15, 3) := by decide +kernel
theorem dX8_does_126 : decode cX8_does 126 = .ok (.aload_n 0, 1) := by decide +kernel
theorem dX8_does_127 : decode cX8_does 127 = .ok (.getfield 126, 3) := by decide +kernel
theorem dX8_does_130 : decode cX8_does 130 = .ok (.ifCond .ne 7, 3) := by decide +kernel
theorem dX8_does_133 : decode cX8_does 133 = .ok (.iconst 5, 1) := by decide +kernel
theorem dX8_does_134 : decode cX8_does 134 = .ok (.goto 4, 3) := by decide +kernel
theorem dX8_does_137 : decode cX8_does 137 = .ok (.iconst 1, 1) := by decide +kernel
theorem dX8_does_138 : decode cX8_does 138 = .ok (.ireturn, 1) := by decide +kernel
theorem dX8_firstFailed_0 : decode cX8_firstFailed 0 = .ok (.aload_n 0, 1) := by decide +kernel
theorem dX8_firstFailed_1 : decode cX8_firstFailed 1 = .ok (.getfield 46, 3) := by decide +kernel
theorem dX8_firstFailed_4 : decode cX8_firstFailed 4 = .ok (.iload_n 1, 1) := by decide +kernel
theorem dX8_firstFailed_5 : decode cX8_firstFailed 5 = .ok (.iaload, 1) := by decide +kernel
theorem dX8_firstFailed_6 : decode cX8_firstFailed 6 = .ok (.istore_n 2, 1) := by decide +kernel
theorem dX8_firstFailed_7 : decode cX8_firstFailed 7 = .ok (.iconst 0, 1) := by decide +kernel
theorem dX8_firstFailed_8 : decode cX8_firstFailed 8 = .ok (.istore_n 3, 1) := by decide +kernel
theorem dX8_firstFailed_9 : decode cX8_firstFailed 9 = .ok (.iload_n 3, 1) := by decide +kernel
theorem dX8_firstFailed_10 : decode cX8_firstFailed 10 = .ok (.aload_n 0, 1) := by decide +kernel
theorem dX8_firstFailed_11 : decode cX8_firstFailed 11 = .ok (.getfield 34, 3) := by decide +kernel
theorem dX8_firstFailed_14 : decode cX8_firstFailed 14 = .ok (.iload_n 2, 1) := by decide +kernel
theorem dX8_firstFailed_15 : decode cX8_firstFailed 15 = .ok (.iaload, 1) := by decide +kernel
theorem dX8_firstFailed_16 : decode cX8_firstFailed 16 = .ok (.if_icmp .ge 29, 3) := by decide +kernel
theorem dX8_firstFailed_19 : decode cX8_firstFailed 19 = .ok (.aload_n 0, 1) := by decide +kernel
theorem dX8_firstFailed_20 : decode cX8_firstFailed 20 = .ok (.iload_n 2, 1) := by decide +kernel
theorem dX8_firstFailed_21 : decode cX8_firstFailed 21 = .ok (.bipush 7, 2) := by decide +kernel
theorem dX8_firstFailed_23 : decode cX8_firstFailed 23 = .ok (.iload_n 1, 1) := by decide +kernel
theorem dX8_firstFailed_24 : decode cX8_firstFailed 24 = .ok (.iadd, 1) := by decide +kernel
theorem dX8_firstFailed_25 : decode cX8_firstFailed 25 = .ok (.bipush 12, 2) := by decide +kernel
theorem dX8_firstFailed_27 : decode cX8_firstFailed 27 = .ok (.iload_n 2, 1) := by decide +kernel
theorem dX8_firstFailed_28 : decode cX8_firstFailed 28 = .ok (.imul, 1) := by decide +kernel
theorem dX8_firstFailed_29 : decode cX8_firstFailed 29 = .ok (.iload_n 3, 1) := by decide +kernel
theorem dX8_firstFailed_30 : decode cX8_firstFailed 30 = .ok (.iadd, 1) := by decide +kernel
theorem dX8_firstFailed_31 : decode cX8_firstFailed 31 = .ok (.invokevirtual 176, 3) := by decide +kernel
theorem dX8_firstFailed_34 : decode cX8_firstFailed 34 = .ok (.ifCond .eq 5, 3) := by decide +kernel
theorem dX8_firstFailed_37 : decode cX8_firstFailed 37 = .ok (.iload_n 3, 1) := by decide +kernel
theorem dX8_firstFailed_38 : decode cX8_firstFailed 38 = .ok (.ireturn, 1) := by decide +kernel
theorem dX8_firstFailed_39 : decode cX8_firstFailed 39 = .ok (.iinc 3 1, 3) := by decide +kernel
theorem dX8_firstFailed_42 : decode cX8_firstFailed 42 = .ok (.goto (-33), 3) := by decide +kernel
theorem dX8_firstFailed_45 : decode cX8_firstFailed 45 = .ok (.iconst (-1), 1) := by decide +kernel
theorem dX8_firstFailed_46 : decode cX8_firstFailed 46 = .ok (.ireturn, 1) := by decide +kernel
theorem dX8_judges_0 : decode cX8_judges 0 = .ok (.aload_n 0, 1) := by decide +kernel
theorem dX8_judges_1 : decode cX8_judges 1 = .ok (.getfield 46, 3) := by decide +kernel
theorem dX8_judges_4 : decode cX8_judges 4 = .ok (.iload_n 1, 1) := by decide +kernel
theorem dX8_judges_5 : decode cX8_judges 5 = .ok (.iaload, 1) := by decide +kernel
theorem dX8_judges_6 : decode cX8_judges 6 = .ok (.istore_n 2, 1) := by decide +kernel
theorem dX8_judges_7 : decode cX8_judges 7 = .ok (.iconst 0, 1) := by decide +kernel
theorem dX8_judges_8 : decode cX8_judges 8 = .ok (.istore_n 3, 1) := by decide +kernel
theorem dX8_judges_9 : decode cX8_judges 9 = .ok (.iconst 0, 1) := by decide +kernel
theorem dX8_judges_10 : decode cX8_judges 10 = .ok (.istore 4, 2) := by decide +kernel
theorem dX8_judges_12 : decode cX8_judges 12 = .ok (.iconst 0, 1) := by decide +kernel
theorem dX8_judges_13 : decode cX8_judges 13 = .ok (.istore 5, 2) := by decide +kernel
theorem dX8_judges_15 : decode cX8_judges 15 = .ok (.iload 5, 2) := by decide +kernel
theorem dX8_judges_17 : decode cX8_judges 17 = .ok (.aload_n 0, 1) := by decide +kernel
theorem dX8_judges_18 : decode cX8_judges 18 = .ok (.getfield 34, 3) := by decide +kernel
theorem dX8_judges_21 : decode cX8_judges 21 = .ok (.iload_n 2, 1) := by decide +kernel
theorem dX8_judges_22 : decode cX8_judges 22 = .ok (.iaload, 1) := by decide +kernel
theorem dX8_judges_23 : decode cX8_judges 23 = .ok (.if_icmp .ge 60, 3) := by decide +kernel
theorem dX8_judges_26 : decode cX8_judges 26 = .ok (.iconst 1, 1) := by decide +kernel
theorem dX8_judges_27 : decode cX8_judges 27 = .ok (.aload_n 0, 1) := by decide +kernel
theorem dX8_judges_28 : decode cX8_judges 28 = .ok (.getfield 37, 3) := by decide +kernel
theorem dX8_judges_31 : decode cX8_judges 31 = .ok (.bipush 12, 2) := by decide +kernel
theorem dX8_judges_33 : decode cX8_judges 33 = .ok (.iload_n 2, 1) := by decide +kernel
theorem dX8_judges_34 : decode cX8_judges 34 = .ok (.imul, 1) := by decide +kernel
theorem dX8_judges_35 : decode cX8_judges 35 = .ok (.iload 5, 2) := by decide +kernel
theorem dX8_judges_37 : decode cX8_judges 37 = .ok (.iadd, 1) := by decide +kernel
theorem dX8_judges_38 : decode cX8_judges 38 = .ok (.iaload, 1) := by decide +kernel
theorem dX8_judges_39 : decode cX8_judges 39 = .ok (.ishl, 1) := by decide +kernel
theorem dX8_judges_40 : decode cX8_judges 40 = .ok (.istore 6, 2) := by decide +kernel
theorem dX8_judges_42 : decode cX8_judges 42 = .ok (.iload 4, 2) := by decide +kernel
theorem dX8_judges_44 : decode cX8_judges 44 = .ok (.iload 6, 2) := by decide +kernel
theorem dX8_judges_46 : decode cX8_judges 46 = .ok (.ior, 1) := by decide +kernel
theorem dX8_judges_47 : decode cX8_judges 47 = .ok (.istore 4, 2) := by decide +kernel
theorem dX8_judges_49 : decode cX8_judges 49 = .ok (.iload_n 3, 1) := by decide +kernel
theorem dX8_judges_50 : decode cX8_judges 50 = .ok (.aload_n 0, 1) := by decide +kernel
theorem dX8_judges_51 : decode cX8_judges 51 = .ok (.iload_n 2, 1) := by decide +kernel
theorem dX8_judges_52 : decode cX8_judges 52 = .ok (.bipush 7, 2) := by decide +kernel
theorem dX8_judges_54 : decode cX8_judges 54 = .ok (.iload_n 1, 1) := by decide +kernel
theorem dX8_judges_55 : decode cX8_judges 55 = .ok (.iadd, 1) := by decide +kernel
theorem dX8_judges_56 : decode cX8_judges 56 = .ok (.bipush 12, 2) := by decide +kernel
theorem dX8_judges_58 : decode cX8_judges 58 = .ok (.iload_n 2, 1) := by decide +kernel
theorem dX8_judges_59 : decode cX8_judges 59 = .ok (.imul, 1) := by decide +kernel
theorem dX8_judges_60 : decode cX8_judges 60 = .ok (.iload 5, 2) := by decide +kernel
theorem dX8_judges_62 : decode cX8_judges 62 = .ok (.iadd, 1) := by decide +kernel
theorem dX8_judges_63 : decode cX8_judges 63 = .ok (.invokevirtual 176, 3) := by decide +kernel
theorem dX8_judges_66 : decode cX8_judges 66 = .ok (.ifCond .ne 7, 3) := by decide +kernel
theorem dX8_judges_69 : decode cX8_judges 69 = .ok (.iconst 0, 1) := by decide +kernel
theorem dX8_judges_70 : decode cX8_judges 70 = .ok (.goto 5, 3) := by decide +kernel
theorem dX8_judges_73 : decode cX8_judges 73 = .ok (.iload 6, 2) := by decide +kernel
theorem dX8_judges_75 : decode cX8_judges 75 = .ok (.ior, 1) := by decide +kernel
theorem dX8_judges_76 : decode cX8_judges 76 = .ok (.istore_n 3, 1) := by decide +kernel
theorem dX8_judges_77 : decode cX8_judges 77 = .ok (.iinc 5 1, 3) := by decide +kernel
theorem dX8_judges_80 : decode cX8_judges 80 = .ok (.goto (-65), 3) := by decide +kernel
theorem dX8_judges_83 : decode cX8_judges 83 = .ok (.aload_n 0, 1) := by decide +kernel
theorem dX8_judges_84 : decode cX8_judges 84 = .ok (.getfield 58, 3) := by decide +kernel
theorem dX8_judges_87 : decode cX8_judges 87 = .ok (.iload_n 1, 1) := by decide +kernel
theorem dX8_judges_88 : decode cX8_judges 88 = .ok (.iconst 0, 1) := by decide +kernel
theorem dX8_judges_89 : decode cX8_judges 89 = .ok (.iastore, 1) := by decide +kernel
theorem dX8_judges_90 : decode cX8_judges 90 = .ok (.iconst 0, 1) := by decide +kernel
theorem dX8_judges_91 : decode cX8_judges 91 = .ok (.istore 5, 2) := by decide +kernel
theorem dX8_judges_93 : decode cX8_judges 93 = .ok (.iload 5, 2) := by decide +kernel
theorem dX8_judges_95 : decode cX8_judges 95 = .ok (.iconst 4, 1) := by decide +kernel
theorem dX8_judges_96 : decode cX8_judges 96 = .ok (.if_icmp .ge 48, 3) := by decide +kernel
theorem dX8_judges_99 : decode cX8_judges 99 = .ok (.aload_n 0, 1) := by decide +kernel
theorem dX8_judges_100 : decode cX8_judges 100 = .ok (.getfield 58, 3) := by decide +kernel
theorem dX8_judges_103 : decode cX8_judges 103 = .ok (.iload_n 1, 1) := by decide +kernel
theorem dX8_judges_104 : decode cX8_judges 104 = .ok (.dup2, 1) := by decide +kernel
theorem dX8_judges_105 : decode cX8_judges 105 = .ok (.iaload, 1) := by decide +kernel
theorem dX8_judges_106 : decode cX8_judges 106 = .ok (.iload 4, 2) := by decide +kernel
theorem dX8_judges_108 : decode cX8_judges 108 = .ok (.iload_n 3, 1) := by decide +kernel
theorem dX8_judges_109 : decode cX8_judges 109 = .ok (.iconst (-1), 1) := by decide +kernel
theorem dX8_judges_110 : decode cX8_judges 110 = .ok (.ixor, 1) := by decide +kernel
theorem dX8_judges_111 : decode cX8_judges 111 = .ok (.iand, 1) := by decide +kernel
theorem dX8_judges_112 : decode cX8_judges 112 = .ok (.iload 5, 2) := by decide +kernel
theorem dX8_judges_114 : decode cX8_judges 114 = .ok (.ishr, 1) := by decide +kernel
theorem dX8_judges_115 : decode cX8_judges 115 = .ok (.iconst 1, 1) := by decide +kernel
theorem dX8_judges_116 : decode cX8_judges 116 = .ok (.iand, 1) := by decide +kernel
theorem dX8_judges_117 : decode cX8_judges 117 = .ok (.iconst 1, 1) := by decide +kernel
theorem dX8_judges_118 : decode cX8_judges 118 = .ok (.if_icmp .ne 17, 3) := by decide +kernel
theorem dX8_judges_121 : decode cX8_judges 121 = .ok (.aload_n 0, 1) := by decide +kernel
theorem dX8_judges_122 : decode cX8_judges 122 = .ok (.getfield 40, 3) := by decide +kernel
theorem dX8_judges_125 : decode cX8_judges 125 = .ok (.iconst 4, 1) := by decide +kernel
theorem dX8_judges_126 : decode cX8_judges 126 = .ok (.iload_n 2, 1) := by decide +kernel
theorem dX8_judges_127 : decode cX8_judges 127 = .ok (.imul, 1) := by decide +kernel
theorem dX8_judges_128 : decode cX8_judges 128 = .ok (.iload 5, 2) := by decide +kernel
theorem dX8_judges_130 : decode cX8_judges 130 = .ok (.iadd, 1) := by decide +kernel
theorem dX8_judges_131 : decode cX8_judges 131 = .ok (.iaload, 1) := by decide +kernel
theorem dX8_judges_132 : decode cX8_judges 132 = .ok (.goto 4, 3) := by decide +kernel
theorem dX8_judges_135 : decode cX8_judges 135 = .ok (.iconst 0, 1) := by decide +kernel
theorem dX8_judges_136 : decode cX8_judges 136 = .ok (.iadd, 1) := by decide +kernel
theorem dX8_judges_137 : decode cX8_judges 137 = .ok (.iastore, 1) := by decide +kernel
theorem dX8_judges_138 : decode cX8_judges 138 = .ok (.iinc 5 1, 3) := by decide +kernel
theorem dX8_judges_141 : decode cX8_judges 141 = .ok (.goto (-48), 3) := by decide +kernel
theorem dX8_judges_144 : decode cX8_judges 144 = .ok (.aload_n 0, 1) := by decide +kernel
theorem dX8_judges_145 : decode cX8_judges 145 = .ok (.getfield 55, 3) := by decide +kernel
theorem dX8_judges_148 : decode cX8_judges 148 = .ok (.iload_n 1, 1) := by decide +kernel
theorem dX8_judges_149 : decode cX8_judges 149 = .ok (.aload_n 0, 1) := by decide +kernel
theorem dX8_judges_150 : decode cX8_judges 150 = .ok (.iload_n 1, 1) := by decide +kernel
theorem dX8_judges_151 : decode cX8_judges 151 = .ok (.invokevirtual 180, 3) := by decide +kernel
theorem dX8_judges_154 : decode cX8_judges 154 = .ok (.iastore, 1) := by decide +kernel
theorem dX8_judges_155 : decode cX8_judges 155 = .ok (.aload_n 0, 1) := by decide +kernel
theorem dX8_judges_156 : decode cX8_judges 156 = .ok (.getfield 52, 3) := by decide +kernel
theorem dX8_judges_159 : decode cX8_judges 159 = .ok (.iload_n 1, 1) := by decide +kernel
theorem dX8_judges_160 : decode cX8_judges 160 = .ok (.aload_n 0, 1) := by decide +kernel
theorem dX8_judges_161 : decode cX8_judges 161 = .ok (.getfield 55, 3) := by decide +kernel
theorem dX8_judges_164 : decode cX8_judges 164 = .ok (.iload_n 1, 1) := by decide +kernel
theorem dX8_judges_165 : decode cX8_judges 165 = .ok (.iaload, 1) := by decide +kernel
theorem dX8_judges_166 : decode cX8_judges 166 = .ok (.iconst (-1), 1) := by decide +kernel
theorem dX8_judges_167 : decode cX8_judges 167 = .ok (.if_icmp .ne 7, 3) := by decide +kernel
theorem dX8_judges_170 : decode cX8_judges 170 = .ok (.iconst 0, 1) := by decide +kernel
theorem dX8_judges_171 : decode cX8_judges 171 = .ok (.goto 23, 3) := by decide +kernel
theorem dX8_judges_174 : decode cX8_judges 174 = .ok (.aload_n 0, 1) := by decide +kernel
theorem dX8_judges_175 : decode cX8_judges 175 = .ok (.iload_n 2, 1) := by decide +kernel
theorem dX8_judges_176 : decode cX8_judges 176 = .ok (.bipush 7, 2) := by decide +kernel
theorem dX8_judges_178 : decode cX8_judges 178 = .ok (.iload_n 1, 1) := by decide +kernel
theorem dX8_judges_179 : decode cX8_judges 179 = .ok (.iadd, 1) := by decide +kernel
theorem dX8_judges_180 : decode cX8_judges 180 = .ok (.bipush 12, 2) := by decide +kernel
theorem dX8_judges_182 : decode cX8_judges 182 = .ok (.iload_n 2, 1) := by decide +kernel
theorem dX8_judges_183 : decode cX8_judges 183 = .ok (.imul, 1) := by decide +kernel
theorem dX8_judges_184 : decode cX8_judges 184 = .ok (.aload_n 0, 1) := by decide +kernel
theorem dX8_judges_185 : decode cX8_judges 185 = .ok (.getfield 55, 3) := by decide +kernel
theorem dX8_judges_188 : decode cX8_judges 188 = .ok (.iload_n 1, 1) := by decide +kernel
theorem dX8_judges_189 : decode cX8_judges 189 = .ok (.iaload, 1) := by decide +kernel
theorem dX8_judges_190 : decode cX8_judges 190 = .ok (.iadd, 1) := by decide +kernel
theorem dX8_judges_191 : decode cX8_judges 191 = .ok (.invokevirtual 176, 3) := by decide +kernel
theorem dX8_judges_194 : decode cX8_judges 194 = .ok (.iastore, 1) := by decide +kernel
theorem dX8_judges_195 : decode cX8_judges 195 = .ok (.aload_n 0, 1) := by decide +kernel
theorem dX8_judges_196 : decode cX8_judges 196 = .ok (.getfield 61, 3) := by decide +kernel
theorem dX8_judges_199 : decode cX8_judges 199 = .ok (.iload_n 1, 1) := by decide +kernel
theorem dX8_judges_200 : decode cX8_judges 200 = .ok (.aload_n 0, 1) := by decide +kernel
theorem dX8_judges_201 : decode cX8_judges 201 = .ok (.getfield 31, 3) := by decide +kernel
theorem dX8_judges_204 : decode cX8_judges 204 = .ok (.iload_n 2, 1) := by decide +kernel
theorem dX8_judges_205 : decode cX8_judges 205 = .ok (.iaload, 1) := by decide +kernel
theorem dX8_judges_206 : decode cX8_judges 206 = .ok (.iastore, 1) := by decide +kernel
theorem dX8_judges_207 : decode cX8_judges 207 = .ok (.aload_n 0, 1) := by decide +kernel
theorem dX8_judges_208 : decode cX8_judges 208 = .ok (.getfield 64, 3) := by decide +kernel
theorem dX8_judges_211 : decode cX8_judges 211 = .ok (.aload_n 0, 1) := by decide +kernel
theorem dX8_judges_212 : decode cX8_judges 212 = .ok (.getfield 43, 3) := by decide +kernel
theorem dX8_judges_215 : decode cX8_judges 215 = .ok (.iload_n 1, 1) := by decide +kernel
theorem dX8_judges_216 : decode cX8_judges 216 = .ok (.iaload, 1) := by decide +kernel
theorem dX8_judges_217 : decode cX8_judges 217 = .ok (.dup2, 1) := by decide +kernel
theorem dX8_judges_218 : decode cX8_judges 218 = .ok (.iaload, 1) := by decide +kernel
theorem dX8_judges_219 : decode cX8_judges 219 = .ok (.iconst 1, 1) := by decide +kernel
theorem dX8_judges_220 : decode cX8_judges 220 = .ok (.iadd, 1) := by decide +kernel
theorem dX8_judges_221 : decode cX8_judges 221 = .ok (.iastore, 1) := by decide +kernel
theorem dX8_judges_222 : decode cX8_judges 222 = .ok (.return_, 1) := by decide +kernel
theorem dX8_enter_0 : decode cX8_enter 0 = .ok (.aload_n 0, 1) := by decide +kernel
theorem dX8_enter_1 : decode cX8_enter 1 = .ok (.iload_n 1, 1) := by decide +kernel
theorem dX8_enter_2 : decode cX8_enter 2 = .ok (.invokestatic 183, 3) := by decide +kernel
theorem dX8_enter_5 : decode cX8_enter 5 = .ok (.ifCond .eq 11, 3) := by decide +kernel
theorem dX8_enter_8 : decode cX8_enter 8 = .ok (.aload_n 0, 1) := by decide +kernel
theorem dX8_enter_9 : decode cX8_enter 9 = .ok (.iload_n 2, 1) := by decide +kernel
theorem dX8_enter_10 : decode cX8_enter 10 = .ok (.invokevirtual 163, 3) := by decide +kernel
theorem dX8_enter_13 : decode cX8_enter 13 = .ok (.ifCond .ne 7, 3) := by decide +kernel
theorem dX8_enter_16 : decode cX8_enter 16 = .ok (.iconst 1, 1) := by decide +kernel
theorem dX8_enter_17 : decode cX8_enter 17 = .ok (.goto 17, 3) := by decide +kernel
theorem dX8_enter_20 : decode cX8_enter 20 = .ok (.aload_n 0, 1) := by decide +kernel
theorem dX8_enter_21 : decode cX8_enter 21 = .ok (.getfield 112, 3) := by decide +kernel
theorem dX8_enter_24 : decode cX8_enter 24 = .ok (.bipush 60, 2) := by decide +kernel
theorem dX8_enter_26 : decode cX8_enter 26 = .ok (.if_icmp .ne 7, 3) := by decide +kernel
theorem dX8_enter_29 : decode cX8_enter 29 = .ok (.iconst 2, 1) := by decide +kernel
theorem dX8_enter_30 : decode cX8_enter 30 = .ok (.goto 4, 3) := by decide +kernel
theorem dX8_enter_33 : decode cX8_enter 33 = .ok (.iconst 0, 1) := by decide +kernel
theorem dX8_enter_34 : decode cX8_enter 34 = .ok (.putfield 102, 3) := by decide +kernel
theorem dX8_enter_37 : decode cX8_enter 37 = .ok (.aload_n 0, 1) := by decide +kernel
theorem dX8_enter_38 : decode cX8_enter 38 = .ok (.getfield 102, 3) := by decide +kernel
theorem dX8_enter_41 : decode cX8_enter 41 = .ok (.ifCond .le 5, 3) := by decide +kernel
theorem dX8_enter_44 : decode cX8_enter 44 = .ok (.iconst 0, 1) := by decide +kernel
theorem dX8_enter_45 : decode cX8_enter 45 = .ok (.ireturn, 1) := by decide +kernel
theorem dX8_enter_46 : decode cX8_enter 46 = .ok (.aload_n 0, 1) := by decide +kernel
theorem dX8_enter_47 : decode cX8_enter 47 = .ok (.getfield 43, 3) := by decide +kernel
theorem dX8_enter_50 : decode cX8_enter 50 = .ok (.aload_n 0, 1) := by decide +kernel
theorem dX8_enter_51 : decode cX8_enter 51 = .ok (.getfield 112, 3) := by decide +kernel
theorem dX8_enter_54 : decode cX8_enter 54 = .ok (.iload_n 1, 1) := by decide +kernel
theorem dX8_enter_55 : decode cX8_enter 55 = .ok (.iastore, 1) := by decide +kernel
theorem dX8_enter_56 : decode cX8_enter 56 = .ok (.aload_n 0, 1) := by decide +kernel
theorem dX8_enter_57 : decode cX8_enter 57 = .ok (.getfield 46, 3) := by decide +kernel
theorem dX8_enter_60 : decode cX8_enter 60 = .ok (.aload_n 0, 1) := by decide +kernel
theorem dX8_enter_61 : decode cX8_enter 61 = .ok (.getfield 112, 3) := by decide +kernel
theorem dX8_enter_64 : decode cX8_enter 64 = .ok (.iload_n 2, 1) := by decide +kernel
theorem dX8_enter_65 : decode cX8_enter 65 = .ok (.iastore, 1) := by decide +kernel
theorem dX8_enter_66 : decode cX8_enter 66 = .ok (.aload_n 0, 1) := by decide +kernel
theorem dX8_enter_67 : decode cX8_enter 67 = .ok (.getfield 49, 3) := by decide +kernel
theorem dX8_enter_70 : decode cX8_enter 70 = .ok (.aload_n 0, 1) := by decide +kernel
theorem dX8_enter_71 : decode cX8_enter 71 = .ok (.getfield 112, 3) := by decide +kernel
theorem dX8_enter_74 : decode cX8_enter 74 = .ok (.aload_n 0, 1) := by decide +kernel
theorem dX8_enter_75 : decode cX8_enter 75 = .ok (.getfield 186, 3) := by decide +kernel
theorem dX8_enter_78 : decode cX8_enter 78 = .ok (.iastore, 1) := by decide +kernel
theorem dX8_enter_79 : decode cX8_enter 79 = .ok (.aload_n 0, 1) := by decide +kernel
theorem dX8_enter_80 : decode cX8_enter 80 = .ok (.getfield 52, 3) := by decide +kernel
theorem dX8_enter_83 : decode cX8_enter 83 = .ok (.aload_n 0, 1) := by decide +kernel
theorem dX8_enter_84 : decode cX8_enter 84 = .ok (.getfield 112, 3) := by decide +kernel
theorem dX8_enter_87 : decode cX8_enter 87 = .ok (.iconst (-1), 1) := by decide +kernel
theorem dX8_enter_88 : decode cX8_enter 88 = .ok (.iastore, 1) := by decide +kernel
theorem dX8_enter_89 : decode cX8_enter 89 = .ok (.aload_n 0, 1) := by decide +kernel
theorem dX8_enter_90 : decode cX8_enter 90 = .ok (.iconst 0, 1) := by decide +kernel
theorem dX8_enter_91 : decode cX8_enter 91 = .ok (.bipush 7, 2) := by decide +kernel
theorem dX8_enter_93 : decode cX8_enter 93 = .ok (.aload_n 0, 1) := by decide +kernel
theorem dX8_enter_94 : decode cX8_enter 94 = .ok (.getfield 112, 3) := by decide +kernel
theorem dX8_enter_97 : decode cX8_enter 97 = .ok (.iadd, 1) := by decide +kernel
theorem dX8_enter_98 : decode cX8_enter 98 = .ok (.invokevirtual 159, 3) := by decide +kernel
theorem dX8_enter_101 : decode cX8_enter 101 = .ok (.aload_n 0, 1) := by decide +kernel
theorem dX8_enter_102 : decode cX8_enter 102 = .ok (.iconst 0, 1) := by decide +kernel
theorem dX8_enter_103 : decode cX8_enter 103 = .ok (.invokevirtual 145, 3) := by decide +kernel
theorem dX8_enter_106 : decode cX8_enter 106 = .ok (.aload_n 0, 1) := by decide +kernel
theorem dX8_enter_107 : decode cX8_enter 107 = .ok (.dup, 1) := by decide +kernel
theorem dX8_enter_108 : decode cX8_enter 108 = .ok (.getfield 112, 3) := by decide +kernel
theorem dX8_enter_111 : decode cX8_enter 111 = .ok (.iconst 1, 1) := by decide +kernel
theorem dX8_enter_112 : decode cX8_enter 112 = .ok (.iadd, 1) := by decide +kernel
theorem dX8_enter_113 : decode cX8_enter 113 = .ok (.putfield 112, 3) := by decide +kernel
theorem dX8_enter_116 : decode cX8_enter 116 = .ok (.aload_n 0, 1) := by decide +kernel
theorem dX8_enter_117 : decode cX8_enter 117 = .ok (.getfield 112, 3) := by decide +kernel
theorem dX8_enter_120 : decode cX8_enter 120 = .ok (.iconst 1, 1) := by decide +kernel
theorem dX8_enter_121 : decode cX8_enter 121 = .ok (.isub, 1) := by decide +kernel
theorem dX8_enter_122 : decode cX8_enter 122 = .ok (.ireturn, 1) := by decide +kernel
theorem dX8_pass_0 : decode cX8_pass 0 = .ok (.aload_n 0, 1) := by decide +kernel
theorem dX8_pass_1 : decode cX8_pass 1 = .ok (.iload_n 1, 1) := by decide +kernel
theorem dX8_pass_2 : decode cX8_pass 2 = .ok (.iconst 1, 1) := by decide +kernel
theorem dX8_pass_3 : decode cX8_pass 3 = .ok (.sipush 300, 3) := by decide +kernel
theorem dX8_pass_6 : decode cX8_pass 6 = .ok (.invokestatic 108, 3) := by decide +kernel
theorem dX8_pass_9 : decode cX8_pass 9 = .ok (.ifCond .ne 7, 3) := by decide +kernel
theorem dX8_pass_12 : decode cX8_pass 12 = .ok (.iconst 1, 1) := by decide +kernel
theorem dX8_pass_13 : decode cX8_pass 13 = .ok (.goto 20, 3) := by decide +kernel
theorem dX8_pass_16 : decode cX8_pass 16 = .ok (.aload_n 0, 1) := by decide +kernel
theorem dX8_pass_17 : decode cX8_pass 17 = .ok (.getfield 186, 3) := by decide +kernel
theorem dX8_pass_20 : decode cX8_pass 20 = .ok (.iload_n 1, 1) := by decide +kernel
theorem dX8_pass_21 : decode cX8_pass 21 = .ok (.iadd, 1) := by decide +kernel
theorem dX8_pass_22 : decode cX8_pass 22 = .ok (.sipush 9999, 3) := by decide +kernel
theorem dX8_pass_25 : decode cX8_pass 25 = .ok (.if_icmp .le 7, 3) := by decide +kernel
theorem dX8_pass_28 : decode cX8_pass 28 = .ok (.iconst 2, 1) := by decide +kernel
theorem dX8_pass_29 : decode cX8_pass 29 = .ok (.goto 4, 3) := by decide +kernel
theorem dX8_pass_32 : decode cX8_pass 32 = .ok (.iconst 0, 1) := by decide +kernel
theorem dX8_pass_33 : decode cX8_pass 33 = .ok (.putfield 102, 3) := by decide +kernel
theorem dX8_pass_36 : decode cX8_pass 36 = .ok (.aload_n 0, 1) := by decide +kernel
theorem dX8_pass_37 : decode cX8_pass 37 = .ok (.dup, 1) := by decide +kernel
theorem dX8_pass_38 : decode cX8_pass 38 = .ok (.getfield 186, 3) := by decide +kernel
theorem dX8_pass_41 : decode cX8_pass 41 = .ok (.aload_n 0, 1) := by decide +kernel
theorem dX8_pass_42 : decode cX8_pass 42 = .ok (.getfield 102, 3) := by decide +kernel
theorem dX8_pass_45 : decode cX8_pass 45 = .ok (.ifCond .ne 7, 3) := by decide +kernel
theorem dX8_pass_48 : decode cX8_pass 48 = .ok (.iload_n 1, 1) := by decide +kernel
theorem dX8_pass_49 : decode cX8_pass 49 = .ok (.goto 4, 3) := by decide +kernel
theorem dX8_pass_52 : decode cX8_pass 52 = .ok (.iconst 0, 1) := by decide +kernel
theorem dX8_pass_53 : decode cX8_pass 53 = .ok (.iadd, 1) := by decide +kernel
theorem dX8_pass_54 : decode cX8_pass 54 = .ok (.putfield 186, 3) := by decide +kernel
theorem dX8_pass_57 : decode cX8_pass 57 = .ok (.aload_n 0, 1) := by decide +kernel
theorem dX8_pass_58 : decode cX8_pass 58 = .ok (.getfield 102, 3) := by decide +kernel
theorem dX8_pass_61 : decode cX8_pass 61 = .ok (.ifCond .le 7, 3) := by decide +kernel
theorem dX8_pass_64 : decode cX8_pass 64 = .ok (.iconst 0, 1) := by decide +kernel
theorem dX8_pass_65 : decode cX8_pass 65 = .ok (.goto 7, 3) := by decide +kernel
theorem dX8_pass_68 : decode cX8_pass 68 = .ok (.aload_n 0, 1) := by decide +kernel
theorem dX8_pass_69 : decode cX8_pass 69 = .ok (.getfield 186, 3) := by decide +kernel
theorem dX8_pass_72 : decode cX8_pass 72 = .ok (.ireturn, 1) := by decide +kernel
theorem dX8_judge_0 : decode cX8_judge 0 = .ok (.aload_n 0, 1) := by decide +kernel
theorem dX8_judge_1 : decode cX8_judge 1 = .ok (.iconst 0, 1) := by decide +kernel
theorem dX8_judge_2 : decode cX8_judge 2 = .ok (.putfield 102, 3) := by decide +kernel
theorem dX8_judge_5 : decode cX8_judge 5 = .ok (.iconst (-1), 1) := by decide +kernel
theorem dX8_judge_6 : decode cX8_judge 6 = .ok (.istore_n 1, 1) := by decide +kernel
theorem dX8_judge_7 : decode cX8_judge 7 = .ok (.iconst 0, 1) := by decide +kernel
theorem dX8_judge_8 : decode cX8_judge 8 = .ok (.istore_n 2, 1) := by decide +kernel
theorem dX8_judge_9 : decode cX8_judge 9 = .ok (.iload_n 2, 1) := by decide +kernel
theorem dX8_judge_10 : decode cX8_judge 10 = .ok (.aload_n 0, 1) := by decide +kernel
theorem dX8_judge_11 : decode cX8_judge 11 = .ok (.getfield 112, 3) := by decide +kernel
theorem dX8_judge_14 : decode cX8_judge 14 = .ok (.if_icmp .ge 65, 3) := by decide +kernel
theorem dX8_judge_17 : decode cX8_judge 17 = .ok (.aload_n 0, 1) := by decide +kernel
theorem dX8_judge_18 : decode cX8_judge 18 = .ok (.getfield 52, 3) := by decide +kernel
theorem dX8_judge_21 : decode cX8_judge 21 = .ok (.iload_n 2, 1) := by decide +kernel
theorem dX8_judge_22 : decode cX8_judge 22 = .ok (.iaload, 1) := by decide +kernel
theorem dX8_judge_23 : decode cX8_judge 23 = .ok (.iconst (-1), 1) := by decide +kernel
theorem dX8_judge_24 : decode cX8_judge 24 = .ok (.if_icmp .ne 37, 3) := by decide +kernel
theorem dX8_judge_27 : decode cX8_judge 27 = .ok (.iload_n 1, 1) := by decide +kernel
theorem dX8_judge_28 : decode cX8_judge 28 = .ok (.iconst (-1), 1) := by decide +kernel
theorem dX8_judge_29 : decode cX8_judge 29 = .ok (.if_icmp .eq 28, 3) := by decide +kernel
theorem dX8_judge_32 : decode cX8_judge 32 = .ok (.aload_n 0, 1) := by decide +kernel
theorem dX8_judge_33 : decode cX8_judge 33 = .ok (.getfield 64, 3) := by decide +kernel
theorem dX8_judge_36 : decode cX8_judge 36 = .ok (.aload_n 0, 1) := by decide +kernel
theorem dX8_judge_37 : decode cX8_judge 37 = .ok (.getfield 43, 3) := by decide +kernel
theorem dX8_judge_40 : decode cX8_judge 40 = .ok (.iload_n 2, 1) := by decide +kernel
theorem dX8_judge_41 : decode cX8_judge 41 = .ok (.iaload, 1) := by decide +kernel
theorem dX8_judge_42 : decode cX8_judge 42 = .ok (.iaload, 1) := by decide +kernel
theorem dX8_judge_43 : decode cX8_judge 43 = .ok (.aload_n 0, 1) := by decide +kernel
theorem dX8_judge_44 : decode cX8_judge 44 = .ok (.getfield 64, 3) := by decide +kernel
theorem dX8_judge_47 : decode cX8_judge 47 = .ok (.aload_n 0, 1) := by decide +kernel
theorem dX8_judge_48 : decode cX8_judge 48 = .ok (.getfield 43, 3) := by decide +kernel
theorem dX8_judge_51 : decode cX8_judge 51 = .ok (.iload_n 1, 1) := by decide +kernel
theorem dX8_judge_52 : decode cX8_judge 52 = .ok (.iaload, 1) := by decide +kernel
theorem dX8_judge_53 : decode cX8_judge 53 = .ok (.iaload, 1) := by decide +kernel
theorem dX8_judge_54 : decode cX8_judge 54 = .ok (.if_icmp .ge 7, 3) := by decide +kernel
theorem dX8_judge_57 : decode cX8_judge 57 = .ok (.iconst 1, 1) := by decide +kernel
theorem dX8_judge_58 : decode cX8_judge 58 = .ok (.goto 4, 3) := by decide +kernel
theorem dX8_judge_61 : decode cX8_judge 61 = .ok (.iconst 0, 1) := by decide +kernel
theorem dX8_judge_62 : decode cX8_judge 62 = .ok (.istore_n 3, 1) := by decide +kernel
theorem dX8_judge_63 : decode cX8_judge 63 = .ok (.iload_n 3, 1) := by decide +kernel
theorem dX8_judge_64 : decode cX8_judge 64 = .ok (.ifCond .eq 7, 3) := by decide +kernel
theorem dX8_judge_67 : decode cX8_judge 67 = .ok (.iload_n 2, 1) := by decide +kernel
theorem dX8_judge_68 : decode cX8_judge 68 = .ok (.goto 4, 3) := by decide +kernel
theorem dX8_judge_71 : decode cX8_judge 71 = .ok (.iload_n 1, 1) := by decide +kernel
theorem dX8_judge_72 : decode cX8_judge 72 = .ok (.istore_n 1, 1) := by decide +kernel
theorem dX8_judge_73 : decode cX8_judge 73 = .ok (.iinc 2 1, 3) := by decide +kernel
theorem dX8_judge_76 : decode cX8_judge 76 = .ok (.goto (-67), 3) := by decide +kernel
theorem dX8_judge_79 : decode cX8_judge 79 = .ok (.iload_n 1, 1) := by decide +kernel
theorem dX8_judge_80 : decode cX8_judge 80 = .ok (.iconst (-1), 1) := by decide +kernel
theorem dX8_judge_81 : decode cX8_judge 81 = .ok (.if_icmp .eq 8, 3) := by decide +kernel
theorem dX8_judge_84 : decode cX8_judge 84 = .ok (.aload_n 0, 1) := by decide +kernel
theorem dX8_judge_85 : decode cX8_judge 85 = .ok (.iload_n 1, 1) := by decide +kernel
theorem dX8_judge_86 : decode cX8_judge 86 = .ok (.invokevirtual 189, 3) := by decide +kernel
theorem dX8_judge_89 : decode cX8_judge 89 = .ok (.iload_n 1, 1) := by decide +kernel
theorem dX8_judge_90 : decode cX8_judge 90 = .ok (.ireturn, 1) := by decide +kernel
theorem dX8_rejudge_0 : decode cX8_rejudge 0 = .ok (.aload_n 0, 1) := by decide +kernel
theorem dX8_rejudge_1 : decode cX8_rejudge 1 = .ok (.aload_n 0, 1) := by decide +kernel
theorem dX8_rejudge_2 : decode cX8_rejudge 2 = .ok (.iload_n 1, 1) := by decide +kernel
theorem dX8_rejudge_3 : decode cX8_rejudge 3 = .ok (.invokevirtual 163, 3) := by decide +kernel
theorem dX8_rejudge_6 : decode cX8_rejudge 6 = .ok (.ifCond .eq 7, 3) := by decide +kernel
theorem dX8_rejudge_9 : decode cX8_rejudge 9 = .ok (.iconst 0, 1) := by decide +kernel
theorem dX8_rejudge_10 : decode cX8_rejudge 10 = .ok (.goto 4, 3) := by decide +kernel
theorem dX8_rejudge_13 : decode cX8_rejudge 13 = .ok (.iconst 1, 1) := by decide +kernel
theorem dX8_rejudge_14 : decode cX8_rejudge 14 = .ok (.putfield 102, 3) := by decide +kernel
theorem dX8_rejudge_17 : decode cX8_rejudge 17 = .ok (.iconst 0, 1) := by decide +kernel
theorem dX8_rejudge_18 : decode cX8_rejudge 18 = .ok (.istore_n 2, 1) := by decide +kernel
theorem dX8_rejudge_19 : decode cX8_rejudge 19 = .ok (.iconst 0, 1) := by decide +kernel
theorem dX8_rejudge_20 : decode cX8_rejudge 20 = .ok (.istore_n 3, 1) := by decide +kernel
theorem dX8_rejudge_21 : decode cX8_rejudge 21 = .ok (.iload_n 3, 1) := by decide +kernel
theorem dX8_rejudge_22 : decode cX8_rejudge 22 = .ok (.aload_n 0, 1) := by decide +kernel
theorem dX8_rejudge_23 : decode cX8_rejudge 23 = .ok (.getfield 112, 3) := by decide +kernel
theorem dX8_rejudge_26 : decode cX8_rejudge 26 = .ok (.if_icmp .ge 61, 3) := by decide +kernel
theorem dX8_rejudge_29 : decode cX8_rejudge 29 = .ok (.aload_n 0, 1) := by decide +kernel
theorem dX8_rejudge_30 : decode cX8_rejudge 30 = .ok (.getfield 102, 3) := by decide +kernel
theorem dX8_rejudge_33 : decode cX8_rejudge 33 = .ok (.ifCond .ne 54, 3) := by decide +kernel
theorem dX8_rejudge_36 : decode cX8_rejudge 36 = .ok (.aload_n 0, 1) := by decide +kernel
theorem dX8_rejudge_37 : decode cX8_rejudge 37 = .ok (.getfield 46, 3) := by decide +kernel
theorem dX8_rejudge_40 : decode cX8_rejudge 40 = .ok (.iload_n 3, 1) := by decide +kernel
theorem dX8_rejudge_41 : decode cX8_rejudge 41 = .ok (.iaload, 1) := by decide +kernel
theorem dX8_rejudge_42 : decode cX8_rejudge 42 = .ok (.iload_n 1, 1) := by decide +kernel
theorem dX8_rejudge_43 : decode cX8_rejudge 43 = .ok (.if_icmp .ne 38, 3) := by decide +kernel
theorem dX8_rejudge_46 : decode cX8_rejudge 46 = .ok (.aload_n 0, 1) := by decide +kernel
theorem dX8_rejudge_47 : decode cX8_rejudge 47 = .ok (.getfield 52, 3) := by decide +kernel
theorem dX8_rejudge_50 : decode cX8_rejudge 50 = .ok (.iload_n 3, 1) := by decide +kernel
theorem dX8_rejudge_51 : decode cX8_rejudge 51 = .ok (.iaload, 1) := by decide +kernel
theorem dX8_rejudge_52 : decode cX8_rejudge 52 = .ok (.iconst (-1), 1) := by decide +kernel
theorem dX8_rejudge_53 : decode cX8_rejudge 53 = .ok (.if_icmp .eq 28, 3) := by decide +kernel
theorem dX8_rejudge_56 : decode cX8_rejudge 56 = .ok (.aload_n 0, 1) := by decide +kernel
theorem dX8_rejudge_57 : decode cX8_rejudge 57 = .ok (.getfield 61, 3) := by decide +kernel
theorem dX8_rejudge_60 : decode cX8_rejudge 60 = .ok (.iload_n 3, 1) := by decide +kernel
theorem dX8_rejudge_61 : decode cX8_rejudge 61 = .ok (.iaload, 1) := by decide +kernel
theorem dX8_rejudge_62 : decode cX8_rejudge 62 = .ok (.aload_n 0, 1) := by decide +kernel
theorem dX8_rejudge_63 : decode cX8_rejudge 63 = .ok (.getfield 31, 3) := by decide +kernel
theorem dX8_rejudge_66 : decode cX8_rejudge 66 = .ok (.iload_n 1, 1) := by decide +kernel
theorem dX8_rejudge_67 : decode cX8_rejudge 67 = .ok (.iaload, 1) := by decide +kernel
theorem dX8_rejudge_68 : decode cX8_rejudge 68 = .ok (.if_icmp .eq 13, 3) := by decide +kernel
theorem dX8_rejudge_71 : decode cX8_rejudge 71 = .ok (.aload_n 0, 1) := by decide +kernel
theorem dX8_rejudge_72 : decode cX8_rejudge 72 = .ok (.getfield 52, 3) := by decide +kernel
theorem dX8_rejudge_75 : decode cX8_rejudge 75 = .ok (.iload_n 3, 1) := by decide +kernel
theorem dX8_rejudge_76 : decode cX8_rejudge 76 = .ok (.iconst (-1), 1) := by decide +kernel
theorem dX8_rejudge_77 : decode cX8_rejudge 77 = .ok (.iastore, 1) := by decide +kernel
theorem dX8_rejudge_78 : decode cX8_rejudge 78 = .ok (.iinc 2 1, 3) := by decide +kernel
theorem dX8_rejudge_81 : decode cX8_rejudge 81 = .ok (.iinc 3 1, 3) := by decide +kernel
theorem dX8_rejudge_84 : decode cX8_rejudge 84 = .ok (.goto (-63), 3) := by decide +kernel
theorem dX8_rejudge_87 : decode cX8_rejudge 87 = .ok (.iload_n 2, 1) := by decide +kernel
theorem dX8_rejudge_88 : decode cX8_rejudge 88 = .ok (.ireturn, 1) := by decide +kernel
theorem dX8_entry_0 : decode cX8_entry 0 = .ok (.aload_n 0, 1) := by decide +kernel
theorem dX8_entry_1 : decode cX8_entry 1 = .ok (.aload_n 0, 1) := by decide +kernel
theorem dX8_entry_2 : decode cX8_entry 2 = .ok (.iload_n 1, 1) := by decide +kernel
theorem dX8_entry_3 : decode cX8_entry 3 = .ok (.invokevirtual 192, 3) := by decide +kernel
theorem dX8_entry_6 : decode cX8_entry 6 = .ok (.ifCond .ne 7, 3) := by decide +kernel
theorem dX8_entry_9 : decode cX8_entry 9 = .ok (.iconst 1, 1) := by decide +kernel
theorem dX8_entry_10 : decode cX8_entry 10 = .ok (.goto 18, 3) := by decide +kernel
theorem dX8_entry_13 : decode cX8_entry 13 = .ok (.iload_n 2, 1) := by decide +kernel
theorem dX8_entry_14 : decode cX8_entry 14 = .ok (.iconst 0, 1) := by decide +kernel
theorem dX8_entry_15 : decode cX8_entry 15 = .ok (.bipush 6, 2) := by decide +kernel
theorem dX8_entry_17 : decode cX8_entry 17 = .ok (.invokestatic 108, 3) := by decide +kernel
theorem dX8_entry_20 : decode cX8_entry 20 = .ok (.ifCond .ne 7, 3) := by decide +kernel
theorem dX8_entry_23 : decode cX8_entry 23 = .ok (.iconst 2, 1) := by decide +kernel
theorem dX8_entry_24 : decode cX8_entry 24 = .ok (.goto 4, 3) := by decide +kernel
theorem dX8_entry_27 : decode cX8_entry 27 = .ok (.iconst 0, 1) := by decide +kernel
theorem dX8_entry_28 : decode cX8_entry 28 = .ok (.putfield 102, 3) := by decide +kernel
theorem dX8_entry_31 : decode cX8_entry 31 = .ok (.aload_n 0, 1) := by decide +kernel
theorem dX8_entry_32 : decode cX8_entry 32 = .ok (.getfield 102, 3) := by decide +kernel
theorem dX8_entry_35 : decode cX8_entry 35 = .ok (.ifCond .le 5, 3) := by decide +kernel
theorem dX8_entry_38 : decode cX8_entry 38 = .ok (.iconst 0, 1) := by decide +kernel
theorem dX8_entry_39 : decode cX8_entry 39 = .ok (.ireturn, 1) := by decide +kernel
theorem dX8_entry_40 : decode cX8_entry 40 = .ok (.aload_n 0, 1) := by decide +kernel
theorem dX8_entry_41 : decode cX8_entry 41 = .ok (.getfield 52, 3) := by decide +kernel
theorem dX8_entry_44 : decode cX8_entry 44 = .ok (.iload_n 1, 1) := by decide +kernel
theorem dX8_entry_45 : decode cX8_entry 45 = .ok (.iaload, 1) := by decide +kernel
theorem dX8_entry_46 : decode cX8_entry 46 = .ok (.iconst (-1), 1) := by decide +kernel
theorem dX8_entry_47 : decode cX8_entry 47 = .ok (.if_icmp .ne 7, 3) := by decide +kernel
theorem dX8_entry_50 : decode cX8_entry 50 = .ok (.iconst 1, 1) := by decide +kernel
theorem dX8_entry_51 : decode cX8_entry 51 = .ok (.goto 4, 3) := by decide +kernel
theorem dX8_entry_54 : decode cX8_entry 54 = .ok (.iconst 0, 1) := by decide +kernel
theorem dX8_entry_55 : decode cX8_entry 55 = .ok (.istore_n 3, 1) := by decide +kernel
theorem dX8_entry_56 : decode cX8_entry 56 = .ok (.iload_n 2, 1) := by decide +kernel
theorem dX8_entry_57 : decode cX8_entry 57 = .ok (.tableswitch 105 0 5 #[39, 46, 61, 76, 91, 98], 39) := by decide +kernel
theorem dX8_entry_96 : decode cX8_entry 96 = .ok (.aload_n 0, 1) := by decide +kernel
theorem dX8_entry_97 : decode cX8_entry 97 = .ok (.getfield 52, 3) := by decide +kernel
theorem dX8_entry_100 : decode cX8_entry 100 = .ok (.iload_n 1, 1) := by decide +kernel
theorem dX8_entry_101 : decode cX8_entry 101 = .ok (.iaload, 1) := by decide +kernel
theorem dX8_entry_102 : decode cX8_entry 102 = .ok (.ireturn, 1) := by decide +kernel
theorem dX8_entry_103 : decode cX8_entry 103 = .ok (.iload_n 3, 1) := by decide +kernel
theorem dX8_entry_104 : decode cX8_entry 104 = .ok (.ifCond .eq 7, 3) := by decide +kernel
theorem dX8_entry_107 : decode cX8_entry 107 = .ok (.iconst (-1), 1) := by decide +kernel
theorem dX8_entry_108 : decode cX8_entry 108 = .ok (.goto 9, 3) := by decide +kernel
theorem dX8_entry_111 : decode cX8_entry 111 = .ok (.aload_n 0, 1) := by decide +kernel
theorem dX8_entry_112 : decode cX8_entry 112 = .ok (.getfield 55, 3) := by decide +kernel
theorem dX8_entry_115 : decode cX8_entry 115 = .ok (.iload_n 1, 1) := by decide +kernel
theorem dX8_entry_116 : decode cX8_entry 116 = .ok (.iaload, 1) := by decide +kernel
theorem dX8_entry_117 : decode cX8_entry 117 = .ok (.ireturn, 1) := by decide +kernel
theorem dX8_entry_118 : decode cX8_entry 118 = .ok (.iload_n 3, 1) := by decide +kernel
theorem dX8_entry_119 : decode cX8_entry 119 = .ok (.ifCond .eq 7, 3) := by decide +kernel
theorem dX8_entry_122 : decode cX8_entry 122 = .ok (.iconst 0, 1) := by decide +kernel
theorem dX8_entry_123 : decode cX8_entry 123 = .ok (.goto 9, 3) := by decide +kernel
theorem dX8_entry_126 : decode cX8_entry 126 = .ok (.aload_n 0, 1) := by decide +kernel
theorem dX8_entry_127 : decode cX8_entry 127 = .ok (.getfield 58, 3) := by decide +kernel
theorem dX8_entry_130 : decode cX8_entry 130 = .ok (.iload_n 1, 1) := by decide +kernel
theorem dX8_entry_131 : decode cX8_entry 131 = .ok (.iaload, 1) := by decide +kernel
theorem dX8_entry_132 : decode cX8_entry 132 = .ok (.ireturn, 1) := by decide +kernel
theorem dX8_entry_133 : decode cX8_entry 133 = .ok (.iload_n 3, 1) := by decide +kernel
theorem dX8_entry_134 : decode cX8_entry 134 = .ok (.ifCond .eq 7, 3) := by decide +kernel
theorem dX8_entry_137 : decode cX8_entry 137 = .ok (.iconst (-1), 1) := by decide +kernel
theorem dX8_entry_138 : decode cX8_entry 138 = .ok (.goto 9, 3) := by decide +kernel
theorem dX8_entry_141 : decode cX8_entry 141 = .ok (.aload_n 0, 1) := by decide +kernel
theorem dX8_entry_142 : decode cX8_entry 142 = .ok (.getfield 61, 3) := by decide +kernel
theorem dX8_entry_145 : decode cX8_entry 145 = .ok (.iload_n 1, 1) := by decide +kernel
theorem dX8_entry_146 : decode cX8_entry 146 = .ok (.iaload, 1) := by decide +kernel
theorem dX8_entry_147 : decode cX8_entry 147 = .ok (.ireturn, 1) := by decide +kernel
theorem dX8_entry_148 : decode cX8_entry 148 = .ok (.aload_n 0, 1) := by decide +kernel
theorem dX8_entry_149 : decode cX8_entry 149 = .ok (.getfield 43, 3) := by decide +kernel
theorem dX8_entry_152 : decode cX8_entry 152 = .ok (.iload_n 1, 1) := by decide +kernel
theorem dX8_entry_153 : decode cX8_entry 153 = .ok (.iaload, 1) := by decide +kernel
theorem dX8_entry_154 : decode cX8_entry 154 = .ok (.ireturn, 1) := by decide +kernel
theorem dX8_entry_155 : decode cX8_entry 155 = .ok (.aload_n 0, 1) := by decide +kernel
theorem dX8_entry_156 : decode cX8_entry 156 = .ok (.getfield 46, 3) := by decide +kernel
theorem dX8_entry_159 : decode cX8_entry 159 = .ok (.iload_n 1, 1) := by decide +kernel
theorem dX8_entry_160 : decode cX8_entry 160 = .ok (.iaload, 1) := by decide +kernel
theorem dX8_entry_161 : decode cX8_entry 161 = .ok (.ireturn, 1) := by decide +kernel
theorem dX8_entry_162 : decode cX8_entry 162 = .ok (.aload_n 0, 1) := by decide +kernel
theorem dX8_entry_163 : decode cX8_entry 163 = .ok (.getfield 49, 3) := by decide +kernel
theorem dX8_entry_166 : decode cX8_entry 166 = .ok (.iload_n 1, 1) := by decide +kernel
theorem dX8_entry_167 : decode cX8_entry 167 = .ok (.iaload, 1) := by decide +kernel
theorem dX8_entry_168 : decode cX8_entry 168 = .ok (.ireturn, 1) := by decide +kernel
theorem dX8_areAlike_0 : decode cX8_areAlike 0 = .ok (.aload_n 0, 1) := by decide +kernel
theorem dX8_areAlike_1 : decode cX8_areAlike 1 = .ok (.getfield 13, 3) := by decide +kernel
theorem dX8_areAlike_4 : decode cX8_areAlike 4 = .ok (.iload_n 1, 1) := by decide +kernel
theorem dX8_areAlike_5 : decode cX8_areAlike 5 = .ok (.iaload, 1) := by decide +kernel
theorem dX8_areAlike_6 : decode cX8_areAlike 6 = .ok (.bipush 7, 2) := by decide +kernel
theorem dX8_areAlike_8 : decode cX8_areAlike 8 = .ok (.if_icmp .eq 14, 3) := by decide +kernel
theorem dX8_areAlike_11 : decode cX8_areAlike 11 = .ok (.aload_n 0, 1) := by decide +kernel
theorem dX8_areAlike_12 : decode cX8_areAlike 12 = .ok (.getfield 13, 3) := by decide +kernel
theorem dX8_areAlike_15 : decode cX8_areAlike 15 = .ok (.iload_n 1, 1) := by decide +kernel
theorem dX8_areAlike_16 : decode cX8_areAlike 16 = .ok (.iaload, 1) := by decide +kernel
theorem dX8_areAlike_17 : decode cX8_areAlike 17 = .ok (.bipush 8, 2) := by decide +kernel
theorem dX8_areAlike_19 : decode cX8_areAlike 19 = .ok (.if_icmp .ne 7, 3) := by decide +kernel
theorem dX8_areAlike_22 : decode cX8_areAlike 22 = .ok (.iconst 1, 1) := by decide +kernel
theorem dX8_areAlike_23 : decode cX8_areAlike 23 = .ok (.goto 4, 3) := by decide +kernel
theorem dX8_areAlike_26 : decode cX8_areAlike 26 = .ok (.iconst 0, 1) := by decide +kernel
theorem dX8_areAlike_27 : decode cX8_areAlike 27 = .ok (.istore_n 3, 1) := by decide +kernel
theorem dX8_areAlike_28 : decode cX8_areAlike 28 = .ok (.aload_n 0, 1) := by decide +kernel
theorem dX8_areAlike_29 : decode cX8_areAlike 29 = .ok (.getfield 13, 3) := by decide +kernel
theorem dX8_areAlike_32 : decode cX8_areAlike 32 = .ok (.iload_n 1, 1) := by decide +kernel
theorem dX8_areAlike_33 : decode cX8_areAlike 33 = .ok (.iaload, 1) := by decide +kernel
theorem dX8_areAlike_34 : decode cX8_areAlike 34 = .ok (.aload_n 0, 1) := by decide +kernel
theorem dX8_areAlike_35 : decode cX8_areAlike 35 = .ok (.getfield 13, 3) := by decide +kernel
theorem dX8_areAlike_38 : decode cX8_areAlike 38 = .ok (.iload_n 2, 1) := by decide +kernel
theorem dX8_areAlike_39 : decode cX8_areAlike 39 = .ok (.iaload, 1) := by decide +kernel
theorem dX8_areAlike_40 : decode cX8_areAlike 40 = .ok (.if_icmp .ne 26, 3) := by decide +kernel
theorem dX8_areAlike_43 : decode cX8_areAlike 43 = .ok (.iload_n 3, 1) := by decide +kernel
theorem dX8_areAlike_44 : decode cX8_areAlike 44 = .ok (.ifCond .eq 18, 3) := by decide +kernel
theorem dX8_areAlike_47 : decode cX8_areAlike 47 = .ok (.aload_n 0, 1) := by decide +kernel
theorem dX8_areAlike_48 : decode cX8_areAlike 48 = .ok (.getfield 16, 3) := by decide +kernel
theorem dX8_areAlike_51 : decode cX8_areAlike 51 = .ok (.iload_n 1, 1) := by decide +kernel
theorem dX8_areAlike_52 : decode cX8_areAlike 52 = .ok (.iaload, 1) := by decide +kernel
theorem dX8_areAlike_53 : decode cX8_areAlike 53 = .ok (.aload_n 0, 1) := by decide +kernel
theorem dX8_areAlike_54 : decode cX8_areAlike 54 = .ok (.getfield 16, 3) := by decide +kernel
theorem dX8_areAlike_57 : decode cX8_areAlike 57 = .ok (.iload_n 2, 1) := by decide +kernel
theorem dX8_areAlike_58 : decode cX8_areAlike 58 = .ok (.iaload, 1) := by decide +kernel
theorem dX8_areAlike_59 : decode cX8_areAlike 59 = .ok (.if_icmp .ne 7, 3) := by decide +kernel
theorem dX8_areAlike_62 : decode cX8_areAlike 62 = .ok (.iconst 1, 1) := by decide +kernel
theorem dX8_areAlike_63 : decode cX8_areAlike 63 = .ok (.goto 4, 3) := by decide +kernel
theorem dX8_areAlike_66 : decode cX8_areAlike 66 = .ok (.iconst 0, 1) := by decide +kernel
theorem dX8_areAlike_67 : decode cX8_areAlike 67 = .ok (.ireturn, 1) := by decide +kernel
theorem dX8_likeness_0 : decode cX8_likeness 0 = .ok (.aload_n 0, 1) := by decide +kernel
theorem dX8_likeness_1 : decode cX8_likeness 1 = .ok (.aload_n 0, 1) := by decide +kernel
theorem dX8_likeness_2 : decode cX8_likeness 2 = .ok (.iload_n 1, 1) := by decide +kernel
theorem dX8_likeness_3 : decode cX8_likeness 3 = .ok (.invokevirtual 192, 3) := by decide +kernel
theorem dX8_likeness_6 : decode cX8_likeness 6 = .ok (.ifCond .eq 15, 3) := by decide +kernel
theorem dX8_likeness_9 : decode cX8_likeness 9 = .ok (.aload_n 0, 1) := by decide +kernel
theorem dX8_likeness_10 : decode cX8_likeness 10 = .ok (.iload_n 2, 1) := by decide +kernel
theorem dX8_likeness_11 : decode cX8_likeness 11 = .ok (.invokevirtual 192, 3) := by decide +kernel
theorem dX8_likeness_14 : decode cX8_likeness 14 = .ok (.ifCond .eq 7, 3) := by decide +kernel
theorem dX8_likeness_17 : decode cX8_likeness 17 = .ok (.iconst 0, 1) := by decide +kernel
theorem dX8_likeness_18 : decode cX8_likeness 18 = .ok (.goto 4, 3) := by decide +kernel
theorem dX8_likeness_21 : decode cX8_likeness 21 = .ok (.iconst 1, 1) := by decide +kernel
theorem dX8_likeness_22 : decode cX8_likeness 22 = .ok (.putfield 102, 3) := by decide +kernel
theorem dX8_likeness_25 : decode cX8_likeness 25 = .ok (.aload_n 0, 1) := by decide +kernel
theorem dX8_likeness_26 : decode cX8_likeness 26 = .ok (.getfield 102, 3) := by decide +kernel
theorem dX8_likeness_29 : decode cX8_likeness 29 = .ok (.ifCond .le 5, 3) := by decide +kernel
theorem dX8_likeness_32 : decode cX8_likeness 32 = .ok (.iconst 0, 1) := by decide +kernel
theorem dX8_likeness_33 : decode cX8_likeness 33 = .ok (.ireturn, 1) := by decide +kernel
theorem dX8_likeness_34 : decode cX8_likeness 34 = .ok (.bipush 7, 2) := by decide +kernel
theorem dX8_likeness_36 : decode cX8_likeness 36 = .ok (.iload_n 1, 1) := by decide +kernel
theorem dX8_likeness_37 : decode cX8_likeness 37 = .ok (.iadd, 1) := by decide +kernel
theorem dX8_likeness_38 : decode cX8_likeness 38 = .ok (.istore_n 3, 1) := by decide +kernel
theorem dX8_likeness_39 : decode cX8_likeness 39 = .ok (.bipush 7, 2) := by decide +kernel
theorem dX8_likeness_41 : decode cX8_likeness 41 = .ok (.iload_n 2, 1) := by decide +kernel
theorem dX8_likeness_42 : decode cX8_likeness 42 = .ok (.iadd, 1) := by decide +kernel
theorem dX8_likeness_43 : decode cX8_likeness 43 = .ok (.istore 4, 2) := by decide +kernel
theorem dX8_likeness_45 : decode cX8_likeness 45 = .ok (.aload_n 0, 1) := by decide +kernel
theorem dX8_likeness_46 : decode cX8_likeness 46 = .ok (.getfield 7, 3) := by decide +kernel
theorem dX8_likeness_49 : decode cX8_likeness 49 = .ok (.iload_n 3, 1) := by decide +kernel
theorem dX8_likeness_50 : decode cX8_likeness 50 = .ok (.iaload, 1) := by decide +kernel
theorem dX8_likeness_51 : decode cX8_likeness 51 = .ok (.aload_n 0, 1) := by decide +kernel
theorem dX8_likeness_52 : decode cX8_likeness 52 = .ok (.getfield 7, 3) := by decide +kernel
theorem dX8_likeness_55 : decode cX8_likeness 55 = .ok (.iload 4, 2) := by decide +kernel
theorem dX8_likeness_57 : decode cX8_likeness 57 = .ok (.iaload, 1) := by decide +kernel
theorem dX8_likeness_58 : decode cX8_likeness 58 = .ok (.if_icmp .le 12, 3) := by decide +kernel
theorem dX8_likeness_61 : decode cX8_likeness 61 = .ok (.aload_n 0, 1) := by decide +kernel
theorem dX8_likeness_62 : decode cX8_likeness 62 = .ok (.getfield 7, 3) := by decide +kernel
theorem dX8_likeness_65 : decode cX8_likeness 65 = .ok (.iload_n 3, 1) := by decide +kernel
theorem dX8_likeness_66 : decode cX8_likeness 66 = .ok (.iaload, 1) := by decide +kernel
theorem dX8_likeness_67 : decode cX8_likeness 67 = .ok (.goto 10, 3) := by decide +kernel
theorem dX8_likeness_70 : decode cX8_likeness 70 = .ok (.aload_n 0, 1) := by decide +kernel
theorem dX8_likeness_71 : decode cX8_likeness 71 = .ok (.getfield 7, 3) := by decide +kernel
theorem dX8_likeness_74 : decode cX8_likeness 74 = .ok (.iload 4, 2) := by decide +kernel
theorem dX8_likeness_76 : decode cX8_likeness 76 = .ok (.iaload, 1) := by decide +kernel
theorem dX8_likeness_77 : decode cX8_likeness 77 = .ok (.istore 5, 2) := by decide +kernel
theorem dX8_likeness_79 : decode cX8_likeness 79 = .ok (.iconst 0, 1) := by decide +kernel
theorem dX8_likeness_80 : decode cX8_likeness 80 = .ok (.istore 6, 2) := by decide +kernel
theorem dX8_likeness_82 : decode cX8_likeness 82 = .ok (.iload 6, 2) := by decide +kernel
theorem dX8_likeness_84 : decode cX8_likeness 84 = .ok (.bipush 17, 2) := by decide +kernel
theorem dX8_likeness_86 : decode cX8_likeness 86 = .ok (.if_icmp .ge 17, 3) := by decide +kernel
theorem dX8_likeness_89 : decode cX8_likeness 89 = .ok (.aload_n 0, 1) := by decide +kernel
theorem dX8_likeness_90 : decode cX8_likeness 90 = .ok (.getfield 99, 3) := by decide +kernel
theorem dX8_likeness_93 : decode cX8_likeness 93 = .ok (.iload 6, 2) := by decide +kernel
theorem dX8_likeness_95 : decode cX8_likeness 95 = .ok (.iconst 0, 1) := by decide +kernel
theorem dX8_likeness_96 : decode cX8_likeness 96 = .ok (.iastore, 1) := by decide +kernel
theorem dX8_likeness_97 : decode cX8_likeness 97 = .ok (.iinc 6 1, 3) := by decide +kernel
theorem dX8_likeness_100 : decode cX8_likeness 100 = .ok (.goto (-18), 3) := by decide +kernel
theorem dX8_likeness_103 : decode cX8_likeness 103 = .ok (.iconst 0, 1) := by decide +kernel
theorem dX8_likeness_104 : decode cX8_likeness 104 = .ok (.istore 6, 2) := by decide +kernel
theorem dX8_likeness_106 : decode cX8_likeness 106 = .ok (.iload 6, 2) := by decide +kernel
theorem dX8_likeness_108 : decode cX8_likeness 108 = .ok (.aload_n 0, 1) := by decide +kernel
theorem dX8_likeness_109 : decode cX8_likeness 109 = .ok (.getfield 7, 3) := by decide +kernel
theorem dX8_likeness_112 : decode cX8_likeness 112 = .ok (.iload_n 3, 1) := by decide +kernel
theorem dX8_likeness_113 : decode cX8_likeness 113 = .ok (.iaload, 1) := by decide +kernel
theorem dX8_likeness_114 : decode cX8_likeness 114 = .ok (.if_icmp .ge 114, 3) := by decide +kernel
theorem dX8_likeness_117 : decode cX8_likeness 117 = .ok (.iconst 0, 1) := by decide +kernel
theorem dX8_likeness_118 : decode cX8_likeness 118 = .ok (.istore 7, 2) := by decide +kernel
theorem dX8_likeness_120 : decode cX8_likeness 120 = .ok (.iconst 0, 1) := by decide +kernel
theorem dX8_likeness_121 : decode cX8_likeness 121 = .ok (.istore 8, 2) := by decide +kernel
theorem dX8_likeness_123 : decode cX8_likeness 123 = .ok (.iload 8, 2) := by decide +kernel
theorem dX8_likeness_125 : decode cX8_likeness 125 = .ok (.aload_n 0, 1) := by decide +kernel
theorem dX8_likeness_126 : decode cX8_likeness 126 = .ok (.getfield 7, 3) := by decide +kernel
theorem dX8_likeness_129 : decode cX8_likeness 129 = .ok (.iload 4, 2) := by decide +kernel
theorem dX8_likeness_131 : decode cX8_likeness 131 = .ok (.iaload, 1) := by decide +kernel
theorem dX8_likeness_132 : decode cX8_likeness 132 = .ok (.if_icmp .ge 90, 3) := by decide +kernel
theorem dX8_likeness_135 : decode cX8_likeness 135 = .ok (.aload_n 0, 1) := by decide +kernel
theorem dX8_likeness_136 : decode cX8_likeness 136 = .ok (.getfield 99, 3) := by decide +kernel
theorem dX8_likeness_139 : decode cX8_likeness 139 = .ok (.iload 8, 2) := by decide +kernel
theorem dX8_likeness_141 : decode cX8_likeness 141 = .ok (.iconst 1, 1) := by decide +kernel
theorem dX8_likeness_142 : decode cX8_likeness 142 = .ok (.iadd, 1) := by decide +kernel
theorem dX8_likeness_143 : decode cX8_likeness 143 = .ok (.iaload, 1) := by decide +kernel
theorem dX8_likeness_144 : decode cX8_likeness 144 = .ok (.istore 9, 2) := by decide +kernel
theorem dX8_likeness_146 : decode cX8_likeness 146 = .ok (.iload 9, 2) := by decide +kernel
theorem dX8_likeness_148 : decode cX8_likeness 148 = .ok (.aload_n 0, 1) := by decide +kernel
theorem dX8_likeness_149 : decode cX8_likeness 149 = .ok (.getfield 99, 3) := by decide +kernel
theorem dX8_likeness_152 : decode cX8_likeness 152 = .ok (.iload 8, 2) := by decide +kernel
theorem dX8_likeness_154 : decode cX8_likeness 154 = .ok (.iaload, 1) := by decide +kernel
theorem dX8_likeness_155 : decode cX8_likeness 155 = .ok (.if_icmp .le 8, 3) := by decide +kernel
theorem dX8_likeness_158 : decode cX8_likeness 158 = .ok (.iload 9, 2) := by decide +kernel
theorem dX8_likeness_160 : decode cX8_likeness 160 = .ok (.goto 10, 3) := by decide +kernel
theorem dX8_likeness_163 : decode cX8_likeness 163 = .ok (.aload_n 0, 1) := by decide +kernel
theorem dX8_likeness_164 : decode cX8_likeness 164 = .ok (.getfield 99, 3) := by decide +kernel
theorem dX8_likeness_167 : decode cX8_likeness 167 = .ok (.iload 8, 2) := by decide +kernel
theorem dX8_likeness_169 : decode cX8_likeness 169 = .ok (.iaload, 1) := by decide +kernel
theorem dX8_likeness_170 : decode cX8_likeness 170 = .ok (.istore 10, 2) := by decide +kernel
theorem dX8_likeness_172 : decode cX8_likeness 172 = .ok (.aload_n 0, 1) := by decide +kernel
theorem dX8_likeness_173 : decode cX8_likeness 173 = .ok (.getfield 99, 3) := by decide +kernel
theorem dX8_likeness_176 : decode cX8_likeness 176 = .ok (.iload 8, 2) := by decide +kernel
theorem dX8_likeness_178 : decode cX8_likeness 178 = .ok (.iconst 1, 1) := by decide +kernel
theorem dX8_likeness_179 : decode cX8_likeness 179 = .ok (.iadd, 1) := by decide +kernel
theorem dX8_likeness_180 : decode cX8_likeness 180 = .ok (.aload_n 0, 1) := by decide +kernel
theorem dX8_likeness_181 : decode cX8_likeness 181 = .ok (.bipush 16, 2) := by decide +kernel
theorem dX8_likeness_183 : decode cX8_likeness 183 = .ok (.iload_n 3, 1) := by decide +kernel
theorem dX8_likeness_184 : decode cX8_likeness 184 = .ok (.imul, 1) := by decide +kernel
theorem dX8_likeness_185 : decode cX8_likeness 185 = .ok (.iload 6, 2) := by decide +kernel
theorem dX8_likeness_187 : decode cX8_likeness 187 = .ok (.iadd, 1) := by decide +kernel
theorem dX8_likeness_188 : decode cX8_likeness 188 = .ok (.bipush 16, 2) := by decide +kernel
theorem dX8_likeness_190 : decode cX8_likeness 190 = .ok (.iload 4, 2) := by decide +kernel
theorem dX8_likeness_192 : decode cX8_likeness 192 = .ok (.imul, 1) := by decide +kernel
theorem dX8_likeness_193 : decode cX8_likeness 193 = .ok (.iload 8, 2) := by decide +kernel
theorem dX8_likeness_195 : decode cX8_likeness 195 = .ok (.iadd, 1) := by decide +kernel
theorem dX8_likeness_196 : decode cX8_likeness 196 = .ok (.invokevirtual 195, 3) := by decide +kernel
theorem dX8_likeness_199 : decode cX8_likeness 199 = .ok (.ifCond .eq 10, 3) := by decide +kernel
theorem dX8_likeness_202 : decode cX8_likeness 202 = .ok (.iload 7, 2) := by decide +kernel
theorem dX8_likeness_204 : decode cX8_likeness 204 = .ok (.iconst 1, 1) := by decide +kernel
theorem dX8_likeness_205 : decode cX8_likeness 205 = .ok (.iadd, 1) := by decide +kernel
theorem dX8_likeness_206 : decode cX8_likeness 206 = .ok (.goto 5, 3) := by decide +kernel
theorem dX8_likeness_209 : decode cX8_likeness 209 = .ok (.iload 10, 2) := by decide +kernel
theorem dX8_likeness_211 : decode cX8_likeness 211 = .ok (.iastore, 1) := by decide +kernel
theorem dX8_likeness_212 : decode cX8_likeness 212 = .ok (.iload 9, 2) := by decide +kernel
theorem dX8_likeness_214 : decode cX8_likeness 214 = .ok (.istore 7, 2) := by decide +kernel
theorem dX8_likeness_216 : decode cX8_likeness 216 = .ok (.iinc 8 1, 3) := by decide +kernel
theorem dX8_likeness_219 : decode cX8_likeness 219 = .ok (.goto (-96), 3) := by decide +kernel
theorem dX8_likeness_222 : decode cX8_likeness 222 = .ok (.iinc 6 1, 3) := by decide +kernel
theorem dX8_likeness_225 : decode cX8_likeness 225 = .ok (.goto (-119), 3) := by decide +kernel
theorem dX8_likeness_228 : decode cX8_likeness 228 = .ok (.iload 5, 2) := by decide +kernel
theorem dX8_likeness_230 : decode cX8_likeness 230 = .ok (.ifCond .ne 8, 3) := by decide +kernel
theorem dX8_likeness_233 : decode cX8_likeness 233 = .ok (.bipush 100, 2) := by decide +kernel
theorem dX8_likeness_235 : decode cX8_likeness 235 = .ok (.goto 21, 3) := by decide +kernel
theorem dX8_likeness_238 : decode cX8_likeness 238 = .ok (.bipush 100, 2) := by decide +kernel
theorem dX8_likeness_240 : decode cX8_likeness 240 = .ok (.aload_n 0, 1) := by decide +kernel
theorem dX8_likeness_241 : decode cX8_likeness 241 = .ok (.getfield 99, 3) := by decide +kernel
theorem dX8_likeness_244 : decode cX8_likeness 244 = .ok (.aload_n 0, 1) := by decide +kernel
theorem dX8_likeness_245 : decode cX8_likeness 245 = .ok (.getfield 7, 3) := by decide +kernel
theorem dX8_likeness_248 : decode cX8_likeness 248 = .ok (.iload 4, 2) := by decide +kernel
theorem dX8_likeness_250 : decode cX8_likeness 250 = .ok (.iaload, 1) := by decide +kernel
theorem dX8_likeness_251 : decode cX8_likeness 251 = .ok (.iaload, 1) := by decide +kernel
theorem dX8_likeness_252 : decode cX8_likeness 252 = .ok (.imul, 1) := by decide +kernel
theorem dX8_likeness_253 : decode cX8_likeness 253 = .ok (.iload 5, 2) := by decide +kernel
theorem dX8_likeness_255 : decode cX8_likeness 255 = .ok (.idiv, 1) := by decide +kernel
theorem dX8_likeness_256 : decode cX8_likeness 256 = .ok (.ireturn, 1) := by decide +kernel
theorem dX8_isLate_0 : decode cX8_isLate 0 = .ok (.aload_n 0, 1) := by decide +kernel
theorem dX8_isLate_1 : decode cX8_isLate 1 = .ok (.getfield 70, 3) := by decide +kernel
theorem dX8_isLate_4 : decode cX8_isLate 4 = .ok (.iconst (-1), 1) := by decide +kernel
theorem dX8_isLate_5 : decode cX8_isLate 5 = .ok (.if_icmp .eq 20, 3) := by decide +kernel
theorem dX8_isLate_8 : decode cX8_isLate 8 = .ok (.aload_n 0, 1) := by decide +kernel
theorem dX8_isLate_9 : decode cX8_isLate 9 = .ok (.getfield 49, 3) := by decide +kernel
theorem dX8_isLate_12 : decode cX8_isLate 12 = .ok (.iload_n 1, 1) := by decide +kernel
theorem dX8_isLate_13 : decode cX8_isLate 13 = .ok (.iaload, 1) := by decide +kernel
theorem dX8_isLate_14 : decode cX8_isLate 14 = .ok (.aload_n 0, 1) := by decide +kernel
theorem dX8_isLate_15 : decode cX8_isLate 15 = .ok (.getfield 70, 3) := by decide +kernel
theorem dX8_isLate_18 : decode cX8_isLate 18 = .ok (.if_icmp .lt 7, 3) := by decide +kernel
theorem dX8_isLate_21 : decode cX8_isLate 21 = .ok (.iconst 1, 1) := by decide +kernel
theorem dX8_isLate_22 : decode cX8_isLate 22 = .ok (.goto 4, 3) := by decide +kernel
theorem dX8_isLate_25 : decode cX8_isLate 25 = .ok (.iconst 0, 1) := by decide +kernel
theorem dX8_isLate_26 : decode cX8_isLate 26 = .ok (.ireturn, 1) := by decide +kernel
theorem dX8_counts_0 : decode cX8_counts 0 = .ok (.iconst 0, 1) := by decide +kernel
theorem dX8_counts_1 : decode cX8_counts 1 = .ok (.istore_n 3, 1) := by decide +kernel
theorem dX8_counts_2 : decode cX8_counts 2 = .ok (.iload_n 3, 1) := by decide +kernel
theorem dX8_counts_3 : decode cX8_counts 3 = .ok (.aload_n 0, 1) := by decide +kernel
theorem dX8_counts_4 : decode cX8_counts 4 = .ok (.getfield 112, 3) := by decide +kernel
theorem dX8_counts_7 : decode cX8_counts 7 = .ok (.if_icmp .ge 40, 3) := by decide +kernel
theorem dX8_counts_10 : decode cX8_counts 10 = .ok (.aload_n 0, 1) := by decide +kernel
theorem dX8_counts_11 : decode cX8_counts 11 = .ok (.getfield 43, 3) := by decide +kernel
theorem dX8_counts_14 : decode cX8_counts 14 = .ok (.iload_n 3, 1) := by decide +kernel
theorem dX8_counts_15 : decode cX8_counts 15 = .ok (.iaload, 1) := by decide +kernel
theorem dX8_counts_16 : decode cX8_counts 16 = .ok (.iload_n 1, 1) := by decide +kernel
theorem dX8_counts_17 : decode cX8_counts 17 = .ok (.if_icmp .ne 24, 3) := by decide +kernel
theorem dX8_counts_20 : decode cX8_counts 20 = .ok (.aload_n 0, 1) := by decide +kernel
theorem dX8_counts_21 : decode cX8_counts 21 = .ok (.getfield 46, 3) := by decide +kernel
theorem dX8_counts_24 : decode cX8_counts 24 = .ok (.iload_n 3, 1) := by decide +kernel
theorem dX8_counts_25 : decode cX8_counts 25 = .ok (.iaload, 1) := by decide +kernel
theorem dX8_counts_26 : decode cX8_counts 26 = .ok (.iload_n 2, 1) := by decide +kernel
theorem dX8_counts_27 : decode cX8_counts 27 = .ok (.if_icmp .ne 14, 3) := by decide +kernel
theorem dX8_counts_30 : decode cX8_counts 30 = .ok (.aload_n 0, 1) := by decide +kernel
theorem dX8_counts_31 : decode cX8_counts 31 = .ok (.getfield 87, 3) := by decide +kernel
theorem dX8_counts_34 : decode cX8_counts 34 = .ok (.iload_n 3, 1) := by decide +kernel
theorem dX8_counts_35 : decode cX8_counts 35 = .ok (.iaload, 1) := by decide +kernel
theorem dX8_counts_36 : decode cX8_counts 36 = .ok (.ifCond .ne 5, 3) := by decide +kernel
theorem dX8_counts_39 : decode cX8_counts 39 = .ok (.iload_n 3, 1) := by decide +kernel
theorem dX8_counts_40 : decode cX8_counts 40 = .ok (.ireturn, 1) := by decide +kernel
theorem dX8_counts_41 : decode cX8_counts 41 = .ok (.iinc 3 1, 3) := by decide +kernel
theorem dX8_counts_44 : decode cX8_counts 44 = .ok (.goto (-42), 3) := by decide +kernel
theorem dX8_counts_47 : decode cX8_counts 47 = .ok (.iconst (-1), 1) := by decide +kernel
theorem dX8_counts_48 : decode cX8_counts 48 = .ok (.ireturn, 1) := by decide +kernel
theorem dX8_boards_0 : decode cX8_boards 0 = .ok (.iconst 0, 1) := by decide +kernel
theorem dX8_boards_1 : decode cX8_boards 1 = .ok (.istore_n 1, 1) := by decide +kernel
theorem dX8_boards_2 : decode cX8_boards 2 = .ok (.iload_n 1, 1) := by decide +kernel
theorem dX8_boards_3 : decode cX8_boards 3 = .ok (.bipush 8, 2) := by decide +kernel
theorem dX8_boards_5 : decode cX8_boards 5 = .ok (.if_icmp .ge 182, 3) := by decide +kernel
theorem dX8_boards_8 : decode cX8_boards 8 = .ok (.aload_n 0, 1) := by decide +kernel
theorem dX8_boards_9 : decode cX8_boards 9 = .ok (.getfield 90, 3) := by decide +kernel
theorem dX8_boards_12 : decode cX8_boards 12 = .ok (.iload_n 1, 1) := by decide +kernel
theorem dX8_boards_13 : decode cX8_boards 13 = .ok (.iconst 0, 1) := by decide +kernel
theorem dX8_boards_14 : decode cX8_boards 14 = .ok (.iastore, 1) := by decide +kernel
theorem dX8_boards_15 : decode cX8_boards 15 = .ok (.aload_n 0, 1) := by decide +kernel
theorem dX8_boards_16 : decode cX8_boards 16 = .ok (.getfield 93, 3) := by decide +kernel
theorem dX8_boards_19 : decode cX8_boards 19 = .ok (.iload_n 1, 1) := by decide +kernel
theorem dX8_boards_20 : decode cX8_boards 20 = .ok (.iconst 0, 1) := by decide +kernel
theorem dX8_boards_21 : decode cX8_boards 21 = .ok (.iastore, 1) := by decide +kernel
theorem dX8_boards_22 : decode cX8_boards 22 = .ok (.aload_n 0, 1) := by decide +kernel
theorem dX8_boards_23 : decode cX8_boards 23 = .ok (.getfield 96, 3) := by decide +kernel
theorem dX8_boards_26 : decode cX8_boards 26 = .ok (.iload_n 1, 1) := by decide +kernel
theorem dX8_boards_27 : decode cX8_boards 27 = .ok (.iconst 0, 1) := by decide +kernel
theorem dX8_boards_28 : decode cX8_boards 28 = .ok (.iastore, 1) := by decide +kernel
theorem dX8_boards_29 : decode cX8_boards 29 = .ok (.iconst 0, 1) := by decide +kernel
theorem dX8_boards_30 : decode cX8_boards 30 = .ok (.istore_n 2, 1) := by decide +kernel
theorem dX8_boards_31 : decode cX8_boards 31 = .ok (.iload_n 2, 1) := by decide +kernel
theorem dX8_boards_32 : decode cX8_boards 32 = .ok (.aload_n 0, 1) := by decide +kernel
theorem dX8_boards_33 : decode cX8_boards 33 = .ok (.getfield 105, 3) := by decide +kernel
theorem dX8_boards_36 : decode cX8_boards 36 = .ok (.if_icmp .ge 145, 3) := by decide +kernel
theorem dX8_boards_39 : decode cX8_boards 39 = .ok (.aload_n 0, 1) := by decide +kernel
theorem dX8_boards_40 : decode cX8_boards 40 = .ok (.iload_n 1, 1) := by decide +kernel
theorem dX8_boards_41 : decode cX8_boards 41 = .ok (.iload_n 2, 1) := by decide +kernel
theorem dX8_boards_42 : decode cX8_boards 42 = .ok (.invokevirtual 198, 3) := by decide +kernel
theorem dX8_boards_45 : decode cX8_boards 45 = .ok (.istore_n 3, 1) := by decide +kernel
theorem dX8_boards_46 : decode cX8_boards 46 = .ok (.iconst 0, 1) := by decide +kernel
theorem dX8_boards_47 : decode cX8_boards 47 = .ok (.istore 4, 2) := by decide +kernel
theorem dX8_boards_49 : decode cX8_boards 49 = .ok (.iload 4, 2) := by decide +kernel
theorem dX8_boards_51 : decode cX8_boards 51 = .ok (.iload_n 3, 1) := by decide +kernel
theorem dX8_boards_52 : decode cX8_boards 52 = .ok (.if_icmp .ge 57, 3) := by decide +kernel
theorem dX8_boards_55 : decode cX8_boards 55 = .ok (.aload_n 0, 1) := by decide +kernel
theorem dX8_boards_56 : decode cX8_boards 56 = .ok (.getfield 93, 3) := by decide +kernel
theorem dX8_boards_59 : decode cX8_boards 59 = .ok (.iload_n 1, 1) := by decide +kernel
theorem dX8_boards_60 : decode cX8_boards 60 = .ok (.dup2, 1) := by decide +kernel
theorem dX8_boards_61 : decode cX8_boards 61 = .ok (.iaload, 1) := by decide +kernel
theorem dX8_boards_62 : decode cX8_boards 62 = .ok (.aload_n 0, 1) := by decide +kernel
theorem dX8_boards_63 : decode cX8_boards 63 = .ok (.getfield 43, 3) := by decide +kernel
theorem dX8_boards_66 : decode cX8_boards 66 = .ok (.iload 4, 2) := by decide +kernel
theorem dX8_boards_68 : decode cX8_boards 68 = .ok (.iaload, 1) := by decide +kernel
theorem dX8_boards_69 : decode cX8_boards 69 = .ok (.iload_n 1, 1) := by decide +kernel
theorem dX8_boards_70 : decode cX8_boards 70 = .ok (.if_icmp .ne 30, 3) := by decide +kernel
theorem dX8_boards_73 : decode cX8_boards 73 = .ok (.aload_n 0, 1) := by decide +kernel
theorem dX8_boards_74 : decode cX8_boards 74 = .ok (.getfield 46, 3) := by decide +kernel
theorem dX8_boards_77 : decode cX8_boards 77 = .ok (.iload 4, 2) := by decide +kernel
theorem dX8_boards_79 : decode cX8_boards 79 = .ok (.iaload, 1) := by decide +kernel
theorem dX8_boards_80 : decode cX8_boards 80 = .ok (.iload_n 2, 1) := by decide +kernel
theorem dX8_boards_81 : decode cX8_boards 81 = .ok (.if_icmp .ne 19, 3) := by decide +kernel
theorem dX8_boards_84 : decode cX8_boards 84 = .ok (.aload_n 0, 1) := by decide +kernel
theorem dX8_boards_85 : decode cX8_boards 85 = .ok (.getfield 87, 3) := by decide +kernel
theorem dX8_boards_88 : decode cX8_boards 88 = .ok (.iload 4, 2) := by decide +kernel
theorem dX8_boards_90 : decode cX8_boards 90 = .ok (.iaload, 1) := by decide +kernel
theorem dX8_boards_91 : decode cX8_boards 91 = .ok (.iconst (-1), 1) := by decide +kernel
theorem dX8_boards_92 : decode cX8_boards 92 = .ok (.if_icmp .eq 8, 3) := by decide +kernel
theorem dX8_boards_95 : decode cX8_boards 95 = .ok (.bipush 20, 2) := by decide +kernel
theorem dX8_boards_97 : decode cX8_boards 97 = .ok (.goto 4, 3) := by decide +kernel
theorem dX8_boards_100 : decode cX8_boards 100 = .ok (.iconst 0, 1) := by decide +kernel
theorem dX8_boards_101 : decode cX8_boards 101 = .ok (.iadd, 1) := by decide +kernel
theorem dX8_boards_102 : decode cX8_boards 102 = .ok (.iastore, 1) := by decide +kernel
theorem dX8_boards_103 : decode cX8_boards 103 = .ok (.iinc 4 1, 3) := by decide +kernel
theorem dX8_boards_106 : decode cX8_boards 106 = .ok (.goto (-57), 3) := by decide +kernel
theorem dX8_boards_109 : decode cX8_boards 109 = .ok (.iload_n 3, 1) := by decide +kernel
theorem dX8_boards_110 : decode cX8_boards 110 = .ok (.iconst (-1), 1) := by decide +kernel
theorem dX8_boards_111 : decode cX8_boards 111 = .ok (.if_icmp .eq 64, 3) := by decide +kernel
theorem dX8_boards_114 : decode cX8_boards 114 = .ok (.aload_n 0, 1) := by decide +kernel
theorem dX8_boards_115 : decode cX8_boards 115 = .ok (.getfield 90, 3) := by decide +kernel
theorem dX8_boards_118 : decode cX8_boards 118 = .ok (.iload_n 1, 1) := by decide +kernel
theorem dX8_boards_119 : decode cX8_boards 119 = .ok (.dup2, 1) := by decide +kernel
theorem dX8_boards_120 : decode cX8_boards 120 = .ok (.iaload, 1) := by decide +kernel
theorem dX8_boards_121 : decode cX8_boards 121 = .ok (.iconst 1, 1) := by decide +kernel
theorem dX8_boards_122 : decode cX8_boards 122 = .ok (.iadd, 1) := by decide +kernel
theorem dX8_boards_123 : decode cX8_boards 123 = .ok (.iastore, 1) := by decide +kernel
theorem dX8_boards_124 : decode cX8_boards 124 = .ok (.aload_n 0, 1) := by decide +kernel
theorem dX8_boards_125 : decode cX8_boards 125 = .ok (.getfield 93, 3) := by decide +kernel
theorem dX8_boards_128 : decode cX8_boards 128 = .ok (.iload_n 1, 1) := by decide +kernel
theorem dX8_boards_129 : decode cX8_boards 129 = .ok (.dup2, 1) := by decide +kernel
theorem dX8_boards_130 : decode cX8_boards 130 = .ok (.iaload, 1) := by decide +kernel
theorem dX8_boards_131 : decode cX8_boards 131 = .ok (.aload_n 0, 1) := by decide +kernel
theorem dX8_boards_132 : decode cX8_boards 132 = .ok (.getfield 49, 3) := by decide +kernel
theorem dX8_boards_135 : decode cX8_boards 135 = .ok (.iload_n 3, 1) := by decide +kernel
theorem dX8_boards_136 : decode cX8_boards 136 = .ok (.iaload, 1) := by decide +kernel
theorem dX8_boards_137 : decode cX8_boards 137 = .ok (.iadd, 1) := by decide +kernel
theorem dX8_boards_138 : decode cX8_boards 138 = .ok (.iastore, 1) := by decide +kernel
theorem dX8_boards_139 : decode cX8_boards 139 = .ok (.aload_n 0, 1) := by decide +kernel
theorem dX8_boards_140 : decode cX8_boards 140 = .ok (.getfield 96, 3) := by decide +kernel
theorem dX8_boards_143 : decode cX8_boards 143 = .ok (.iload_n 1, 1) := by decide +kernel
theorem dX8_boards_144 : decode cX8_boards 144 = .ok (.aload_n 0, 1) := by decide +kernel
theorem dX8_boards_145 : decode cX8_boards 145 = .ok (.getfield 49, 3) := by decide +kernel
theorem dX8_boards_148 : decode cX8_boards 148 = .ok (.iload_n 3, 1) := by decide +kernel
theorem dX8_boards_149 : decode cX8_boards 149 = .ok (.iaload, 1) := by decide +kernel
theorem dX8_boards_150 : decode cX8_boards 150 = .ok (.aload_n 0, 1) := by decide +kernel
theorem dX8_boards_151 : decode cX8_boards 151 = .ok (.getfield 96, 3) := by decide +kernel
theorem dX8_boards_154 : decode cX8_boards 154 = .ok (.iload_n 1, 1) := by decide +kernel
theorem dX8_boards_155 : decode cX8_boards 155 = .ok (.iaload, 1) := by decide +kernel
theorem dX8_boards_156 : decode cX8_boards 156 = .ok (.if_icmp .le 12, 3) := by decide +kernel
theorem dX8_boards_159 : decode cX8_boards 159 = .ok (.aload_n 0, 1) := by decide +kernel
theorem dX8_boards_160 : decode cX8_boards 160 = .ok (.getfield 49, 3) := by decide +kernel
theorem dX8_boards_163 : decode cX8_boards 163 = .ok (.iload_n 3, 1) := by decide +kernel
theorem dX8_boards_164 : decode cX8_boards 164 = .ok (.iaload, 1) := by decide +kernel
theorem dX8_boards_165 : decode cX8_boards 165 = .ok (.goto 9, 3) := by decide +kernel
theorem dX8_boards_168 : decode cX8_boards 168 = .ok (.aload_n 0, 1) := by decide +kernel
theorem dX8_boards_169 : decode cX8_boards 169 = .ok (.getfield 96, 3) := by decide +kernel
theorem dX8_boards_172 : decode cX8_boards 172 = .ok (.iload_n 1, 1) := by decide +kernel
theorem dX8_boards_173 : decode cX8_boards 173 = .ok (.iaload, 1) := by decide +kernel
theorem dX8_boards_174 : decode cX8_boards 174 = .ok (.iastore, 1) := by decide +kernel
theorem dX8_boards_175 : decode cX8_boards 175 = .ok (.iinc 2 1, 3) := by decide +kernel
theorem dX8_boards_178 : decode cX8_boards 178 = .ok (.goto (-147), 3) := by decide +kernel
theorem dX8_boards_181 : decode cX8_boards 181 = .ok (.iinc 1 1, 3) := by decide +kernel
theorem dX8_boards_184 : decode cX8_boards 184 = .ok (.goto (-182), 3) := by decide +kernel
theorem dX8_boards_187 : decode cX8_boards 187 = .ok (.return_, 1) := by decide +kernel
theorem dX8_tells_0 : decode cX8_tells 0 = .ok (.iconst 0, 1) := by decide +kernel
theorem dX8_tells_1 : decode cX8_tells 1 = .ok (.istore_n 2, 1) := by decide +kernel
theorem dX8_tells_2 : decode cX8_tells 2 = .ok (.iload_n 2, 1) := by decide +kernel
theorem dX8_tells_3 : decode cX8_tells 3 = .ok (.aload_n 0, 1) := by decide +kernel
theorem dX8_tells_4 : decode cX8_tells 4 = .ok (.getfield 112, 3) := by decide +kernel
theorem dX8_tells_7 : decode cX8_tells 7 = .ok (.if_icmp .ge 71, 3) := by decide +kernel
theorem dX8_tells_10 : decode cX8_tells 10 = .ok (.iload_n 1, 1) := by decide +kernel
theorem dX8_tells_11 : decode cX8_tells 11 = .ok (.ifCond .eq 39, 3) := by decide +kernel
theorem dX8_tells_14 : decode cX8_tells 14 = .ok (.aload_n 0, 1) := by decide +kernel
theorem dX8_tells_15 : decode cX8_tells 15 = .ok (.iload_n 2, 1) := by decide +kernel
theorem dX8_tells_16 : decode cX8_tells 16 = .ok (.invokevirtual 202, 3) := by decide +kernel
theorem dX8_tells_19 : decode cX8_tells 19 = .ok (.ifCond .eq 31, 3) := by decide +kernel
theorem dX8_tells_22 : decode cX8_tells 22 = .ok (.aload_n 0, 1) := by decide +kernel
theorem dX8_tells_23 : decode cX8_tells 23 = .ok (.getfield 74, 3) := by decide +kernel
theorem dX8_tells_26 : decode cX8_tells 26 = .ok (.bipush 6, 2) := by decide +kernel
theorem dX8_tells_28 : decode cX8_tells 28 = .ok (.aload_n 0, 1) := by decide +kernel
theorem dX8_tells_29 : decode cX8_tells 29 = .ok (.getfield 43, 3) := by decide +kernel
theorem dX8_tells_32 : decode cX8_tells 32 = .ok (.iload_n 2, 1) := by decide +kernel
theorem dX8_tells_33 : decode cX8_tells 33 = .ok (.iaload, 1) := by decide +kernel
theorem dX8_tells_34 : decode cX8_tells 34 = .ok (.imul, 1) := by decide +kernel
theorem dX8_tells_35 : decode cX8_tells 35 = .ok (.aload_n 0, 1) := by decide +kernel
theorem dX8_tells_36 : decode cX8_tells 36 = .ok (.getfield 46, 3) := by decide +kernel
theorem dX8_tells_39 : decode cX8_tells 39 = .ok (.iload_n 2, 1) := by decide +kernel
theorem dX8_tells_40 : decode cX8_tells 40 = .ok (.iaload, 1) := by decide +kernel
theorem dX8_tells_41 : decode cX8_tells 41 = .ok (.iadd, 1) := by decide +kernel
theorem dX8_tells_42 : decode cX8_tells 42 = .ok (.baload, 1) := by decide +kernel
theorem dX8_tells_43 : decode cX8_tells 43 = .ok (.ifCond .ne 7, 3) := by decide +kernel
theorem dX8_tells_46 : decode cX8_tells 46 = .ok (.iconst 1, 1) := by decide +kernel
theorem dX8_tells_47 : decode cX8_tells 47 = .ok (.goto 4, 3) := by decide +kernel
theorem dX8_tells_50 : decode cX8_tells 50 = .ok (.iconst 0, 1) := by decide +kernel
theorem dX8_tells_51 : decode cX8_tells 51 = .ok (.istore_n 3, 1) := by decide +kernel
theorem dX8_tells_52 : decode cX8_tells 52 = .ok (.aload_n 0, 1) := by decide +kernel
theorem dX8_tells_53 : decode cX8_tells 53 = .ok (.getfield 87, 3) := by decide +kernel
theorem dX8_tells_56 : decode cX8_tells 56 = .ok (.iload_n 2, 1) := by decide +kernel
theorem dX8_tells_57 : decode cX8_tells 57 = .ok (.iload_n 3, 1) := by decide +kernel
theorem dX8_tells_58 : decode cX8_tells 58 = .ok (.ifCond .eq 7, 3) := by decide +kernel
theorem dX8_tells_61 : decode cX8_tells 61 = .ok (.iconst (-1), 1) := by decide +kernel
theorem dX8_tells_62 : decode cX8_tells 62 = .ok (.goto 9, 3) := by decide +kernel
theorem dX8_tells_65 : decode cX8_tells 65 = .ok (.aload_n 0, 1) := by decide +kernel
theorem dX8_tells_66 : decode cX8_tells 66 = .ok (.getfield 52, 3) := by decide +kernel
theorem dX8_tells_69 : decode cX8_tells 69 = .ok (.iload_n 2, 1) := by decide +kernel
theorem dX8_tells_70 : decode cX8_tells 70 = .ok (.iaload, 1) := by decide +kernel
theorem dX8_tells_71 : decode cX8_tells 71 = .ok (.iastore, 1) := by decide +kernel
theorem dX8_tells_72 : decode cX8_tells 72 = .ok (.iinc 2 1, 3) := by decide +kernel
theorem dX8_tells_75 : decode cX8_tells 75 = .ok (.goto (-73), 3) := by decide +kernel
theorem dX8_tells_78 : decode cX8_tells 78 = .ok (.aload_n 0, 1) := by decide +kernel
theorem dX8_tells_79 : decode cX8_tells 79 = .ok (.invokevirtual 205, 3) := by decide +kernel
theorem dX8_tells_82 : decode cX8_tells 82 = .ok (.return_, 1) := by decide +kernel
theorem dX8_isAhead_0 : decode cX8_isAhead 0 = .ok (.aload_n 0, 1) := by decide +kernel
theorem dX8_isAhead_1 : decode cX8_isAhead 1 = .ok (.getfield 90, 3) := by decide +kernel
theorem dX8_isAhead_4 : decode cX8_isAhead 4 = .ok (.iload_n 1, 1) := by decide +kernel
theorem dX8_isAhead_5 : decode cX8_isAhead 5 = .ok (.iaload, 1) := by decide +kernel
theorem dX8_isAhead_6 : decode cX8_isAhead 6 = .ok (.aload_n 0, 1) := by decide +kernel
theorem dX8_isAhead_7 : decode cX8_isAhead 7 = .ok (.getfield 90, 3) := by decide +kernel
theorem dX8_isAhead_10 : decode cX8_isAhead 10 = .ok (.iload_n 2, 1) := by decide +kernel
theorem dX8_isAhead_11 : decode cX8_isAhead 11 = .ok (.iaload, 1) := by decide +kernel
theorem dX8_isAhead_12 : decode cX8_isAhead 12 = .ok (.if_icmp .eq 24, 3) := by decide +kernel
theorem dX8_isAhead_15 : decode cX8_isAhead 15 = .ok (.aload_n 0, 1) := by decide +kernel
theorem dX8_isAhead_16 : decode cX8_isAhead 16 = .ok (.getfield 90, 3) := by decide +kernel
theorem dX8_isAhead_19 : decode cX8_isAhead 19 = .ok (.iload_n 1, 1) := by decide +kernel
theorem dX8_isAhead_20 : decode cX8_isAhead 20 = .ok (.iaload, 1) := by decide +kernel
theorem dX8_isAhead_21 : decode cX8_isAhead 21 = .ok (.aload_n 0, 1) := by decide +kernel
theorem dX8_isAhead_22 : decode cX8_isAhead 22 = .ok (.getfield 90, 3) := by decide +kernel
theorem dX8_isAhead_25 : decode cX8_isAhead 25 = .ok (.iload_n 2, 1) := by decide +kernel
theorem dX8_isAhead_26 : decode cX8_isAhead 26 = .ok (.iaload, 1) := by decide +kernel
theorem dX8_isAhead_27 : decode cX8_isAhead 27 = .ok (.if_icmp .le 7, 3) := by decide +kernel
theorem dX8_isAhead_30 : decode cX8_isAhead 30 = .ok (.iconst 1, 1) := by decide +kernel
theorem dX8_isAhead_31 : decode cX8_isAhead 31 = .ok (.goto 4, 3) := by decide +kernel
theorem dX8_isAhead_34 : decode cX8_isAhead 34 = .ok (.iconst 0, 1) := by decide +kernel
theorem dX8_isAhead_35 : decode cX8_isAhead 35 = .ok (.ireturn, 1) := by decide +kernel
theorem dX8_isAhead_36 : decode cX8_isAhead 36 = .ok (.aload_n 0, 1) := by decide +kernel
theorem dX8_isAhead_37 : decode cX8_isAhead 37 = .ok (.getfield 93, 3) := by decide +kernel
theorem dX8_isAhead_40 : decode cX8_isAhead 40 = .ok (.iload_n 1, 1) := by decide +kernel
theorem dX8_isAhead_41 : decode cX8_isAhead 41 = .ok (.iaload, 1) := by decide +kernel
theorem dX8_isAhead_42 : decode cX8_isAhead 42 = .ok (.aload_n 0, 1) := by decide +kernel
theorem dX8_isAhead_43 : decode cX8_isAhead 43 = .ok (.getfield 93, 3) := by decide +kernel
theorem dX8_isAhead_46 : decode cX8_isAhead 46 = .ok (.iload_n 2, 1) := by decide +kernel
theorem dX8_isAhead_47 : decode cX8_isAhead 47 = .ok (.iaload, 1) := by decide +kernel
theorem dX8_isAhead_48 : decode cX8_isAhead 48 = .ok (.if_icmp .eq 24, 3) := by decide +kernel
theorem dX8_isAhead_51 : decode cX8_isAhead 51 = .ok (.aload_n 0, 1) := by decide +kernel
theorem dX8_isAhead_52 : decode cX8_isAhead 52 = .ok (.getfield 93, 3) := by decide +kernel
theorem dX8_isAhead_55 : decode cX8_isAhead 55 = .ok (.iload_n 1, 1) := by decide +kernel
theorem dX8_isAhead_56 : decode cX8_isAhead 56 = .ok (.iaload, 1) := by decide +kernel
theorem dX8_isAhead_57 : decode cX8_isAhead 57 = .ok (.aload_n 0, 1) := by decide +kernel
theorem dX8_isAhead_58 : decode cX8_isAhead 58 = .ok (.getfield 93, 3) := by decide +kernel
theorem dX8_isAhead_61 : decode cX8_isAhead 61 = .ok (.iload_n 2, 1) := by decide +kernel
theorem dX8_isAhead_62 : decode cX8_isAhead 62 = .ok (.iaload, 1) := by decide +kernel
theorem dX8_isAhead_63 : decode cX8_isAhead 63 = .ok (.if_icmp .ge 7, 3) := by decide +kernel
theorem dX8_isAhead_66 : decode cX8_isAhead 66 = .ok (.iconst 1, 1) := by decide +kernel
theorem dX8_isAhead_67 : decode cX8_isAhead 67 = .ok (.goto 4, 3) := by decide +kernel
theorem dX8_isAhead_70 : decode cX8_isAhead 70 = .ok (.iconst 0, 1) := by decide +kernel
theorem dX8_isAhead_71 : decode cX8_isAhead 71 = .ok (.ireturn, 1) := by decide +kernel
theorem dX8_isAhead_72 : decode cX8_isAhead 72 = .ok (.aload_n 0, 1) := by decide +kernel
theorem dX8_isAhead_73 : decode cX8_isAhead 73 = .ok (.getfield 96, 3) := by decide +kernel
theorem dX8_isAhead_76 : decode cX8_isAhead 76 = .ok (.iload_n 1, 1) := by decide +kernel
theorem dX8_isAhead_77 : decode cX8_isAhead 77 = .ok (.iaload, 1) := by decide +kernel
theorem dX8_isAhead_78 : decode cX8_isAhead 78 = .ok (.aload_n 0, 1) := by decide +kernel
theorem dX8_isAhead_79 : decode cX8_isAhead 79 = .ok (.getfield 96, 3) := by decide +kernel
theorem dX8_isAhead_82 : decode cX8_isAhead 82 = .ok (.iload_n 2, 1) := by decide +kernel
theorem dX8_isAhead_83 : decode cX8_isAhead 83 = .ok (.iaload, 1) := by decide +kernel
theorem dX8_isAhead_84 : decode cX8_isAhead 84 = .ok (.if_icmp .eq 26, 3) := by decide +kernel
theorem dX8_isAhead_87 : decode cX8_isAhead 87 = .ok (.aload_n 0, 1) := by decide +kernel
theorem dX8_isAhead_88 : decode cX8_isAhead 88 = .ok (.getfield 96, 3) := by decide +kernel
theorem dX8_isAhead_91 : decode cX8_isAhead 91 = .ok (.iload_n 1, 1) := by decide +kernel
theorem dX8_isAhead_92 : decode cX8_isAhead 92 = .ok (.iaload, 1) := by decide +kernel
theorem dX8_isAhead_93 : decode cX8_isAhead 93 = .ok (.aload_n 0, 1) := by decide +kernel
theorem dX8_isAhead_94 : decode cX8_isAhead 94 = .ok (.getfield 96, 3) := by decide +kernel
theorem dX8_isAhead_97 : decode cX8_isAhead 97 = .ok (.iload_n 2, 1) := by decide +kernel
theorem dX8_isAhead_98 : decode cX8_isAhead 98 = .ok (.iaload, 1) := by decide +kernel
theorem dX8_isAhead_99 : decode cX8_isAhead 99 = .ok (.if_icmp .ge 7, 3) := by decide +kernel
theorem dX8_isAhead_102 : decode cX8_isAhead 102 = .ok (.iconst 1, 1) := by decide +kernel
theorem dX8_isAhead_103 : decode cX8_isAhead 103 = .ok (.goto 17, 3) := by decide +kernel
theorem dX8_isAhead_106 : decode cX8_isAhead 106 = .ok (.iconst 0, 1) := by decide +kernel
theorem dX8_isAhead_107 : decode cX8_isAhead 107 = .ok (.goto 13, 3) := by decide +kernel
theorem dX8_isAhead_110 : decode cX8_isAhead 110 = .ok (.iload_n 1, 1) := by decide +kernel
theorem dX8_isAhead_111 : decode cX8_isAhead 111 = .ok (.iload_n 2, 1) := by decide +kernel
theorem dX8_isAhead_112 : decode cX8_isAhead 112 = .ok (.if_icmp .ge 7, 3) := by decide +kernel
theorem dX8_isAhead_115 : decode cX8_isAhead 115 = .ok (.iconst 1, 1) := by decide +kernel
theorem dX8_isAhead_116 : decode cX8_isAhead 116 = .ok (.goto 4, 3) := by decide +kernel
theorem dX8_isAhead_119 : decode cX8_isAhead 119 = .ok (.iconst 0, 1) := by decide +kernel
theorem dX8_isAhead_120 : decode cX8_isAhead 120 = .ok (.ireturn, 1) := by decide +kernel
theorem dX8_placeOf_0 : decode cX8_placeOf 0 = .ok (.iconst 0, 1) := by decide +kernel
theorem dX8_placeOf_1 : decode cX8_placeOf 1 = .ok (.istore_n 2, 1) := by decide +kernel
theorem dX8_placeOf_2 : decode cX8_placeOf 2 = .ok (.iconst 0, 1) := by decide +kernel
theorem dX8_placeOf_3 : decode cX8_placeOf 3 = .ok (.istore_n 3, 1) := by decide +kernel
theorem dX8_placeOf_4 : decode cX8_placeOf 4 = .ok (.iload_n 3, 1) := by decide +kernel
theorem dX8_placeOf_5 : decode cX8_placeOf 5 = .ok (.bipush 8, 2) := by decide +kernel
theorem dX8_placeOf_7 : decode cX8_placeOf 7 = .ok (.if_icmp .ge 31, 3) := by decide +kernel
theorem dX8_placeOf_10 : decode cX8_placeOf 10 = .ok (.iload_n 2, 1) := by decide +kernel
theorem dX8_placeOf_11 : decode cX8_placeOf 11 = .ok (.iload_n 3, 1) := by decide +kernel
theorem dX8_placeOf_12 : decode cX8_placeOf 12 = .ok (.iload_n 1, 1) := by decide +kernel
theorem dX8_placeOf_13 : decode cX8_placeOf 13 = .ok (.if_icmp .eq 16, 3) := by decide +kernel
theorem dX8_placeOf_16 : decode cX8_placeOf 16 = .ok (.aload_n 0, 1) := by decide +kernel
theorem dX8_placeOf_17 : decode cX8_placeOf 17 = .ok (.iload_n 3, 1) := by decide +kernel
theorem dX8_placeOf_18 : decode cX8_placeOf 18 = .ok (.iload_n 1, 1) := by decide +kernel
theorem dX8_placeOf_19 : decode cX8_placeOf 19 = .ok (.invokevirtual 208, 3) := by decide +kernel
theorem dX8_placeOf_22 : decode cX8_placeOf 22 = .ok (.ifCond .eq 7, 3) := by decide +kernel
theorem dX8_placeOf_25 : decode cX8_placeOf 25 = .ok (.iconst 1, 1) := by decide +kernel
theorem dX8_placeOf_26 : decode cX8_placeOf 26 = .ok (.goto 4, 3) := by decide +kernel
theorem dX8_placeOf_29 : decode cX8_placeOf 29 = .ok (.iconst 0, 1) := by decide +kernel
theorem dX8_placeOf_30 : decode cX8_placeOf 30 = .ok (.iadd, 1) := by decide +kernel
theorem dX8_placeOf_31 : decode cX8_placeOf 31 = .ok (.istore_n 2, 1) := by decide +kernel
theorem dX8_placeOf_32 : decode cX8_placeOf 32 = .ok (.iinc 3 1, 3) := by decide +kernel
theorem dX8_placeOf_35 : decode cX8_placeOf 35 = .ok (.goto (-31), 3) := by decide +kernel
theorem dX8_placeOf_38 : decode cX8_placeOf 38 = .ok (.iload_n 2, 1) := by decide +kernel
theorem dX8_placeOf_39 : decode cX8_placeOf 39 = .ok (.ireturn, 1) := by decide +kernel
theorem dX8_freeze_0 : decode cX8_freeze 0 = .ok (.aload_n 0, 1) := by decide +kernel
theorem dX8_freeze_1 : decode cX8_freeze 1 = .ok (.iload_n 1, 1) := by decide +kernel
theorem dX8_freeze_2 : decode cX8_freeze 2 = .ok (.iconst (-1), 1) := by decide +kernel
theorem dX8_freeze_3 : decode cX8_freeze 3 = .ok (.sipush 9999, 3) := by decide +kernel
theorem dX8_freeze_6 : decode cX8_freeze 6 = .ok (.invokestatic 108, 3) := by decide +kernel
theorem dX8_freeze_9 : decode cX8_freeze 9 = .ok (.ifCond .eq 7, 3) := by decide +kernel
theorem dX8_freeze_12 : decode cX8_freeze 12 = .ok (.iconst 0, 1) := by decide +kernel
theorem dX8_freeze_13 : decode cX8_freeze 13 = .ok (.goto 4, 3) := by decide +kernel
theorem dX8_freeze_16 : decode cX8_freeze 16 = .ok (.iconst 1, 1) := by decide +kernel
theorem dX8_freeze_17 : decode cX8_freeze 17 = .ok (.putfield 102, 3) := by decide +kernel
theorem dX8_freeze_20 : decode cX8_freeze 20 = .ok (.aload_n 0, 1) := by decide +kernel
theorem dX8_freeze_21 : decode cX8_freeze 21 = .ok (.getfield 102, 3) := by decide +kernel
theorem dX8_freeze_24 : decode cX8_freeze 24 = .ok (.ifCond .ne 29, 3) := by decide +kernel
theorem dX8_freeze_27 : decode cX8_freeze 27 = .ok (.aload_n 0, 1) := by decide +kernel
theorem dX8_freeze_28 : decode cX8_freeze 28 = .ok (.iload_n 1, 1) := by decide +kernel
theorem dX8_freeze_29 : decode cX8_freeze 29 = .ok (.putfield 70, 3) := by decide +kernel
theorem dX8_freeze_32 : decode cX8_freeze 32 = .ok (.iconst 0, 1) := by decide +kernel
theorem dX8_freeze_33 : decode cX8_freeze 33 = .ok (.istore_n 2, 1) := by decide +kernel
theorem dX8_freeze_34 : decode cX8_freeze 34 = .ok (.iload_n 2, 1) := by decide +kernel
theorem dX8_freeze_35 : decode cX8_freeze 35 = .ok (.bipush 48, 2) := by decide +kernel
theorem dX8_freeze_37 : decode cX8_freeze 37 = .ok (.if_icmp .ge 16, 3) := by decide +kernel
theorem dX8_freeze_40 : decode cX8_freeze 40 = .ok (.aload_n 0, 1) := by decide +kernel
theorem dX8_freeze_41 : decode cX8_freeze 41 = .ok (.getfield 74, 3) := by decide +kernel
theorem dX8_freeze_44 : decode cX8_freeze 44 = .ok (.iload_n 2, 1) := by decide +kernel
theorem dX8_freeze_45 : decode cX8_freeze 45 = .ok (.iconst 0, 1) := by decide +kernel
theorem dX8_freeze_46 : decode cX8_freeze 46 = .ok (.bastore, 1) := by decide +kernel
theorem dX8_freeze_47 : decode cX8_freeze 47 = .ok (.iinc 2 1, 3) := by decide +kernel
theorem dX8_freeze_50 : decode cX8_freeze 50 = .ok (.goto (-16), 3) := by decide +kernel
theorem dX8_freeze_53 : decode cX8_freeze 53 = .ok (.return_, 1) := by decide +kernel
theorem dX8_toReveal_0 : decode cX8_toReveal 0 = .ok (.iconst (-1), 1) := by decide +kernel
theorem dX8_toReveal_1 : decode cX8_toReveal 1 = .ok (.istore_n 2, 1) := by decide +kernel
theorem dX8_toReveal_2 : decode cX8_toReveal 2 = .ok (.iconst 0, 1) := by decide +kernel
theorem dX8_toReveal_3 : decode cX8_toReveal 3 = .ok (.istore_n 3, 1) := by decide +kernel
theorem dX8_toReveal_4 : decode cX8_toReveal 4 = .ok (.iload_n 3, 1) := by decide +kernel
theorem dX8_toReveal_5 : decode cX8_toReveal 5 = .ok (.aload_n 0, 1) := by decide +kernel
theorem dX8_toReveal_6 : decode cX8_toReveal 6 = .ok (.getfield 112, 3) := by decide +kernel
theorem dX8_toReveal_9 : decode cX8_toReveal 9 = .ok (.if_icmp .ge 94, 3) := by decide +kernel
theorem dX8_toReveal_12 : decode cX8_toReveal 12 = .ok (.aload_n 0, 1) := by decide +kernel
theorem dX8_toReveal_13 : decode cX8_toReveal 13 = .ok (.getfield 43, 3) := by decide +kernel
theorem dX8_toReveal_16 : decode cX8_toReveal 16 = .ok (.iload_n 3, 1) := by decide +kernel
theorem dX8_toReveal_17 : decode cX8_toReveal 17 = .ok (.iaload, 1) := by decide +kernel
theorem dX8_toReveal_18 : decode cX8_toReveal 18 = .ok (.iload_n 1, 1) := by decide +kernel
theorem dX8_toReveal_19 : decode cX8_toReveal 19 = .ok (.if_icmp .ne 44, 3) := by decide +kernel
theorem dX8_toReveal_22 : decode cX8_toReveal 22 = .ok (.aload_n 0, 1) := by decide +kernel
theorem dX8_toReveal_23 : decode cX8_toReveal 23 = .ok (.iload_n 3, 1) := by decide +kernel
theorem dX8_toReveal_24 : decode cX8_toReveal 24 = .ok (.invokevirtual 202, 3) := by decide +kernel
theorem dX8_toReveal_27 : decode cX8_toReveal 27 = .ok (.ifCond .eq 36, 3) := by decide +kernel
theorem dX8_toReveal_30 : decode cX8_toReveal 30 = .ok (.aload_n 0, 1) := by decide +kernel
theorem dX8_toReveal_31 : decode cX8_toReveal 31 = .ok (.getfield 52, 3) := by decide +kernel
theorem dX8_toReveal_34 : decode cX8_toReveal 34 = .ok (.iload_n 3, 1) := by decide +kernel
theorem dX8_toReveal_35 : decode cX8_toReveal 35 = .ok (.iaload, 1) := by decide +kernel
theorem dX8_toReveal_36 : decode cX8_toReveal 36 = .ok (.iconst (-1), 1) := by decide +kernel
theorem dX8_toReveal_37 : decode cX8_toReveal 37 = .ok (.if_icmp .eq 26, 3) := by decide +kernel
theorem dX8_toReveal_40 : decode cX8_toReveal 40 = .ok (.aload_n 0, 1) := by decide +kernel
theorem dX8_toReveal_41 : decode cX8_toReveal 41 = .ok (.getfield 74, 3) := by decide +kernel
theorem dX8_toReveal_44 : decode cX8_toReveal 44 = .ok (.bipush 6, 2) := by decide +kernel
theorem dX8_toReveal_46 : decode cX8_toReveal 46 = .ok (.iload_n 1, 1) := by decide +kernel
theorem dX8_toReveal_47 : decode cX8_toReveal 47 = .ok (.imul, 1) := by decide +kernel
theorem dX8_toReveal_48 : decode cX8_toReveal 48 = .ok (.aload_n 0, 1) := by decide +kernel
theorem dX8_toReveal_49 : decode cX8_toReveal 49 = .ok (.getfield 46, 3) := by decide +kernel
theorem dX8_toReveal_52 : decode cX8_toReveal 52 = .ok (.iload_n 3, 1) := by decide +kernel
theorem dX8_toReveal_53 : decode cX8_toReveal 53 = .ok (.iaload, 1) := by decide +kernel
theorem dX8_toReveal_54 : decode cX8_toReveal 54 = .ok (.iadd, 1) := by decide +kernel
theorem dX8_toReveal_55 : decode cX8_toReveal 55 = .ok (.baload, 1) := by decide +kernel
theorem dX8_toReveal_56 : decode cX8_toReveal 56 = .ok (.ifCond .ne 7, 3) := by decide +kernel
theorem dX8_toReveal_59 : decode cX8_toReveal 59 = .ok (.iconst 1, 1) := by decide +kernel
theorem dX8_toReveal_60 : decode cX8_toReveal 60 = .ok (.goto 4, 3) := by decide +kernel
theorem dX8_toReveal_63 : decode cX8_toReveal 63 = .ok (.iconst 0, 1) := by decide +kernel
theorem dX8_toReveal_64 : decode cX8_toReveal 64 = .ok (.istore 4, 2) := by decide +kernel
theorem dX8_toReveal_66 : decode cX8_toReveal 66 = .ok (.iload 4, 2) := by decide +kernel
theorem dX8_toReveal_68 : decode cX8_toReveal 68 = .ok (.ifCond .eq 27, 3) := by decide +kernel
theorem dX8_toReveal_71 : decode cX8_toReveal 71 = .ok (.iload_n 2, 1) := by decide +kernel
theorem dX8_toReveal_72 : decode cX8_toReveal 72 = .ok (.iconst (-1), 1) := by decide +kernel
theorem dX8_toReveal_73 : decode cX8_toReveal 73 = .ok (.if_icmp .eq 13, 3) := by decide +kernel
theorem dX8_toReveal_76 : decode cX8_toReveal 76 = .ok (.aload_n 0, 1) := by decide +kernel
theorem dX8_toReveal_77 : decode cX8_toReveal 77 = .ok (.getfield 46, 3) := by decide +kernel
theorem dX8_toReveal_80 : decode cX8_toReveal 80 = .ok (.iload_n 3, 1) := by decide +kernel
theorem dX8_toReveal_81 : decode cX8_toReveal 81 = .ok (.iaload, 1) := by decide +kernel
theorem dX8_toReveal_82 : decode cX8_toReveal 82 = .ok (.iload_n 2, 1) := by decide +kernel
theorem dX8_toReveal_83 : decode cX8_toReveal 83 = .ok (.if_icmp .ge 12, 3) := by decide +kernel
theorem dX8_toReveal_86 : decode cX8_toReveal 86 = .ok (.aload_n 0, 1) := by decide +kernel
theorem dX8_toReveal_87 : decode cX8_toReveal 87 = .ok (.getfield 46, 3) := by decide +kernel
theorem dX8_toReveal_90 : decode cX8_toReveal 90 = .ok (.iload_n 3, 1) := by decide +kernel
theorem dX8_toReveal_91 : decode cX8_toReveal 91 = .ok (.iaload, 1) := by decide +kernel
theorem dX8_toReveal_92 : decode cX8_toReveal 92 = .ok (.goto 4, 3) := by decide +kernel
theorem dX8_toReveal_95 : decode cX8_toReveal 95 = .ok (.iload_n 2, 1) := by decide +kernel
theorem dX8_toReveal_96 : decode cX8_toReveal 96 = .ok (.istore_n 2, 1) := by decide +kernel
theorem dX8_toReveal_97 : decode cX8_toReveal 97 = .ok (.iinc 3 1, 3) := by decide +kernel
theorem dX8_toReveal_100 : decode cX8_toReveal 100 = .ok (.goto (-96), 3) := by decide +kernel
theorem dX8_toReveal_103 : decode cX8_toReveal 103 = .ok (.iload_n 2, 1) := by decide +kernel
theorem dX8_toReveal_104 : decode cX8_toReveal 104 = .ok (.ireturn, 1) := by decide +kernel
theorem dX8_reveal_0 : decode cX8_reveal 0 = .ok (.aload_n 0, 1) := by decide +kernel
theorem dX8_reveal_1 : decode cX8_reveal 1 = .ok (.iconst 0, 1) := by decide +kernel
theorem dX8_reveal_2 : decode cX8_reveal 2 = .ok (.putfield 102, 3) := by decide +kernel
theorem dX8_reveal_5 : decode cX8_reveal 5 = .ok (.aload_n 0, 1) := by decide +kernel
theorem dX8_reveal_6 : decode cX8_reveal 6 = .ok (.iconst 1, 1) := by decide +kernel
theorem dX8_reveal_7 : decode cX8_reveal 7 = .ok (.invokevirtual 211, 3) := by decide +kernel
theorem dX8_reveal_10 : decode cX8_reveal 10 = .ok (.iconst (-1), 1) := by decide +kernel
theorem dX8_reveal_11 : decode cX8_reveal 11 = .ok (.istore_n 1, 1) := by decide +kernel
theorem dX8_reveal_12 : decode cX8_reveal 12 = .ok (.iconst 0, 1) := by decide +kernel
theorem dX8_reveal_13 : decode cX8_reveal 13 = .ok (.istore_n 2, 1) := by decide +kernel
theorem dX8_reveal_14 : decode cX8_reveal 14 = .ok (.iload_n 2, 1) := by decide +kernel
theorem dX8_reveal_15 : decode cX8_reveal 15 = .ok (.bipush 8, 2) := by decide +kernel
theorem dX8_reveal_17 : decode cX8_reveal 17 = .ok (.if_icmp .ge 48, 3) := by decide +kernel
theorem dX8_reveal_20 : decode cX8_reveal 20 = .ok (.aload_n 0, 1) := by decide +kernel
theorem dX8_reveal_21 : decode cX8_reveal 21 = .ok (.iload_n 2, 1) := by decide +kernel
theorem dX8_reveal_22 : decode cX8_reveal 22 = .ok (.invokevirtual 215, 3) := by decide +kernel
theorem dX8_reveal_25 : decode cX8_reveal 25 = .ok (.iconst (-1), 1) := by decide +kernel
theorem dX8_reveal_26 : decode cX8_reveal 26 = .ok (.if_icmp .eq 7, 3) := by decide +kernel
theorem dX8_reveal_29 : decode cX8_reveal 29 = .ok (.iconst 1, 1) := by decide +kernel
theorem dX8_reveal_30 : decode cX8_reveal 30 = .ok (.goto 4, 3) := by decide +kernel
theorem dX8_reveal_33 : decode cX8_reveal 33 = .ok (.iconst 0, 1) := by decide +kernel
theorem dX8_reveal_34 : decode cX8_reveal 34 = .ok (.istore_n 3, 1) := by decide +kernel
theorem dX8_reveal_35 : decode cX8_reveal 35 = .ok (.iload_n 3, 1) := by decide +kernel
theorem dX8_reveal_36 : decode cX8_reveal 36 = .ok (.ifCond .eq 21, 3) := by decide +kernel
theorem dX8_reveal_39 : decode cX8_reveal 39 = .ok (.iload_n 1, 1) := by decide +kernel
theorem dX8_reveal_40 : decode cX8_reveal 40 = .ok (.iconst (-1), 1) := by decide +kernel
theorem dX8_reveal_41 : decode cX8_reveal 41 = .ok (.if_icmp .eq 12, 3) := by decide +kernel
theorem dX8_reveal_44 : decode cX8_reveal 44 = .ok (.aload_n 0, 1) := by decide +kernel
theorem dX8_reveal_45 : decode cX8_reveal 45 = .ok (.iload_n 1, 1) := by decide +kernel
theorem dX8_reveal_46 : decode cX8_reveal 46 = .ok (.iload_n 2, 1) := by decide +kernel
theorem dX8_reveal_47 : decode cX8_reveal 47 = .ok (.invokevirtual 208, 3) := by decide +kernel
theorem dX8_reveal_50 : decode cX8_reveal 50 = .ok (.ifCond .eq 7, 3) := by decide +kernel
theorem dX8_reveal_53 : decode cX8_reveal 53 = .ok (.iload_n 2, 1) := by decide +kernel
theorem dX8_reveal_54 : decode cX8_reveal 54 = .ok (.goto 4, 3) := by decide +kernel
theorem dX8_reveal_57 : decode cX8_reveal 57 = .ok (.iload_n 1, 1) := by decide +kernel
theorem dX8_reveal_58 : decode cX8_reveal 58 = .ok (.istore_n 1, 1) := by decide +kernel
theorem dX8_reveal_59 : decode cX8_reveal 59 = .ok (.iinc 2 1, 3) := by decide +kernel
theorem dX8_reveal_62 : decode cX8_reveal 62 = .ok (.goto (-48), 3) := by decide +kernel
theorem dX8_reveal_65 : decode cX8_reveal 65 = .ok (.iload_n 1, 1) := by decide +kernel
theorem dX8_reveal_66 : decode cX8_reveal 66 = .ok (.iconst (-1), 1) := by decide +kernel
theorem dX8_reveal_67 : decode cX8_reveal 67 = .ok (.if_icmp .ne 5, 3) := by decide +kernel
theorem dX8_reveal_70 : decode cX8_reveal 70 = .ok (.iconst (-1), 1) := by decide +kernel
theorem dX8_reveal_71 : decode cX8_reveal 71 = .ok (.ireturn, 1) := by decide +kernel
theorem dX8_reveal_72 : decode cX8_reveal 72 = .ok (.aload_n 0, 1) := by decide +kernel
theorem dX8_reveal_73 : decode cX8_reveal 73 = .ok (.iload_n 1, 1) := by decide +kernel
theorem dX8_reveal_74 : decode cX8_reveal 74 = .ok (.invokevirtual 215, 3) := by decide +kernel
theorem dX8_reveal_77 : decode cX8_reveal 77 = .ok (.istore_n 2, 1) := by decide +kernel
theorem dX8_reveal_78 : decode cX8_reveal 78 = .ok (.aload_n 0, 1) := by decide +kernel
theorem dX8_reveal_79 : decode cX8_reveal 79 = .ok (.getfield 74, 3) := by decide +kernel
theorem dX8_reveal_82 : decode cX8_reveal 82 = .ok (.bipush 6, 2) := by decide +kernel
theorem dX8_reveal_84 : decode cX8_reveal 84 = .ok (.iload_n 1, 1) := by decide +kernel
theorem dX8_reveal_85 : decode cX8_reveal 85 = .ok (.imul, 1) := by decide +kernel
theorem dX8_reveal_86 : decode cX8_reveal 86 = .ok (.iload_n 2, 1) := by decide +kernel
theorem dX8_reveal_87 : decode cX8_reveal 87 = .ok (.iadd, 1) := by decide +kernel
theorem dX8_reveal_88 : decode cX8_reveal 88 = .ok (.iconst 1, 1) := by decide +kernel
theorem dX8_reveal_89 : decode cX8_reveal 89 = .ok (.bastore, 1) := by decide +kernel
theorem dX8_reveal_90 : decode cX8_reveal 90 = .ok (.bipush 10, 2) := by decide +kernel
theorem dX8_reveal_92 : decode cX8_reveal 92 = .ok (.iload_n 1, 1) := by decide +kernel
theorem dX8_reveal_93 : decode cX8_reveal 93 = .ok (.imul, 1) := by decide +kernel
theorem dX8_reveal_94 : decode cX8_reveal 94 = .ok (.iload_n 2, 1) := by decide +kernel
theorem dX8_reveal_95 : decode cX8_reveal 95 = .ok (.iadd, 1) := by decide +kernel
theorem dX8_reveal_96 : decode cX8_reveal 96 = .ok (.ireturn, 1) := by decide +kernel
theorem dX8_board_0 : decode cX8_board 0 = .ok (.aload_n 0, 1) := by decide +kernel
theorem dX8_board_1 : decode cX8_board 1 = .ok (.iload_n 1, 1) := by decide +kernel
theorem dX8_board_2 : decode cX8_board 2 = .ok (.invokestatic 183, 3) := by decide +kernel
theorem dX8_board_5 : decode cX8_board 5 = .ok (.ifCond .ne 7, 3) := by decide +kernel
theorem dX8_board_8 : decode cX8_board 8 = .ok (.iconst 1, 1) := by decide +kernel
theorem dX8_board_9 : decode cX8_board 9 = .ok (.goto 17, 3) := by decide +kernel
theorem dX8_board_12 : decode cX8_board 12 = .ok (.iload_n 3, 1) := by decide +kernel
theorem dX8_board_13 : decode cX8_board 13 = .ok (.iconst 0, 1) := by decide +kernel
theorem dX8_board_14 : decode cX8_board 14 = .ok (.iconst 4, 1) := by decide +kernel
theorem dX8_board_15 : decode cX8_board 15 = .ok (.invokestatic 108, 3) := by decide +kernel
theorem dX8_board_18 : decode cX8_board 18 = .ok (.ifCond .ne 7, 3) := by decide +kernel
theorem dX8_board_21 : decode cX8_board 21 = .ok (.iconst 2, 1) := by decide +kernel
theorem dX8_board_22 : decode cX8_board 22 = .ok (.goto 4, 3) := by decide +kernel
theorem dX8_board_25 : decode cX8_board 25 = .ok (.iconst 0, 1) := by decide +kernel
theorem dX8_board_26 : decode cX8_board 26 = .ok (.putfield 102, 3) := by decide +kernel
theorem dX8_board_29 : decode cX8_board 29 = .ok (.aload_n 0, 1) := by decide +kernel
theorem dX8_board_30 : decode cX8_board 30 = .ok (.getfield 102, 3) := by decide +kernel
theorem dX8_board_33 : decode cX8_board 33 = .ok (.ifCond .le 5, 3) := by decide +kernel
theorem dX8_board_36 : decode cX8_board 36 = .ok (.iconst 0, 1) := by decide +kernel
theorem dX8_board_37 : decode cX8_board 37 = .ok (.ireturn, 1) := by decide +kernel
theorem dX8_board_38 : decode cX8_board 38 = .ok (.aload_n 0, 1) := by decide +kernel
theorem dX8_board_39 : decode cX8_board 39 = .ok (.iload_n 2, 1) := by decide +kernel
theorem dX8_board_40 : decode cX8_board 40 = .ok (.invokevirtual 211, 3) := by decide +kernel
theorem dX8_board_43 : decode cX8_board 43 = .ok (.iload_n 3, 1) := by decide +kernel
theorem dX8_board_44 : decode cX8_board 44 = .ok (.ifCond .ne 11, 3) := by decide +kernel
theorem dX8_board_47 : decode cX8_board 47 = .ok (.aload_n 0, 1) := by decide +kernel
theorem dX8_board_48 : decode cX8_board 48 = .ok (.iload_n 1, 1) := by decide +kernel
theorem dX8_board_49 : decode cX8_board 49 = .ok (.invokevirtual 218, 3) := by decide +kernel
theorem dX8_board_52 : decode cX8_board 52 = .ok (.goto 51, 3) := by decide +kernel
theorem dX8_board_55 : decode cX8_board 55 = .ok (.iload_n 3, 1) := by decide +kernel
theorem dX8_board_56 : decode cX8_board 56 = .ok (.iconst 1, 1) := by decide +kernel
theorem dX8_board_57 : decode cX8_board 57 = .ok (.if_icmp .ne 12, 3) := by decide +kernel
theorem dX8_board_60 : decode cX8_board 60 = .ok (.aload_n 0, 1) := by decide +kernel
theorem dX8_board_61 : decode cX8_board 61 = .ok (.getfield 90, 3) := by decide +kernel
theorem dX8_board_64 : decode cX8_board 64 = .ok (.iload_n 1, 1) := by decide +kernel
theorem dX8_board_65 : decode cX8_board 65 = .ok (.iaload, 1) := by decide +kernel
theorem dX8_board_66 : decode cX8_board 66 = .ok (.goto 37, 3) := by decide +kernel
theorem dX8_board_69 : decode cX8_board 69 = .ok (.iload_n 3, 1) := by decide +kernel
theorem dX8_board_70 : decode cX8_board 70 = .ok (.iconst 2, 1) := by decide +kernel
theorem dX8_board_71 : decode cX8_board 71 = .ok (.if_icmp .ne 12, 3) := by decide +kernel
theorem dX8_board_74 : decode cX8_board 74 = .ok (.aload_n 0, 1) := by decide +kernel
theorem dX8_board_75 : decode cX8_board 75 = .ok (.getfield 93, 3) := by decide +kernel
theorem dX8_board_78 : decode cX8_board 78 = .ok (.iload_n 1, 1) := by decide +kernel
theorem dX8_board_79 : decode cX8_board 79 = .ok (.iaload, 1) := by decide +kernel
theorem dX8_board_80 : decode cX8_board 80 = .ok (.goto 23, 3) := by decide +kernel
theorem dX8_board_83 : decode cX8_board 83 = .ok (.iload_n 3, 1) := by decide +kernel
theorem dX8_board_84 : decode cX8_board 84 = .ok (.iconst 3, 1) := by decide +kernel
theorem dX8_board_85 : decode cX8_board 85 = .ok (.if_icmp .ne 12, 3) := by decide +kernel
theorem dX8_board_88 : decode cX8_board 88 = .ok (.aload_n 0, 1) := by decide +kernel
theorem dX8_board_89 : decode cX8_board 89 = .ok (.getfield 96, 3) := by decide +kernel
theorem dX8_board_92 : decode cX8_board 92 = .ok (.iload_n 1, 1) := by decide +kernel
theorem dX8_board_93 : decode cX8_board 93 = .ok (.iaload, 1) := by decide +kernel
theorem dX8_board_94 : decode cX8_board 94 = .ok (.goto 9, 3) := by decide +kernel
theorem dX8_board_97 : decode cX8_board 97 = .ok (.aload_n 0, 1) := by decide +kernel
theorem dX8_board_98 : decode cX8_board 98 = .ok (.getfield 67, 3) := by decide +kernel
theorem dX8_board_101 : decode cX8_board 101 = .ok (.iload_n 1, 1) := by decide +kernel
theorem dX8_board_102 : decode cX8_board 102 = .ok (.iaload, 1) := by decide +kernel
theorem dX8_board_103 : decode cX8_board 103 = .ok (.ireturn, 1) := by decide +kernel
theorem dX8_placeAnew_0 : decode cX8_placeAnew 0 = .ok (.aload_n 0, 1) := by decide +kernel
theorem dX8_placeAnew_1 : decode cX8_placeAnew 1 = .ok (.iload_n 1, 1) := by decide +kernel
theorem dX8_placeAnew_2 : decode cX8_placeAnew 2 = .ok (.invokestatic 183, 3) := by decide +kernel
theorem dX8_placeAnew_5 : decode cX8_placeAnew 5 = .ok (.ifCond .eq 7, 3) := by decide +kernel
theorem dX8_placeAnew_8 : decode cX8_placeAnew 8 = .ok (.iconst 0, 1) := by decide +kernel
theorem dX8_placeAnew_9 : decode cX8_placeAnew 9 = .ok (.goto 4, 3) := by decide +kernel
theorem dX8_placeAnew_12 : decode cX8_placeAnew 12 = .ok (.iconst 1, 1) := by decide +kernel
theorem dX8_placeAnew_13 : decode cX8_placeAnew 13 = .ok (.putfield 102, 3) := by decide +kernel
theorem dX8_placeAnew_16 : decode cX8_placeAnew 16 = .ok (.aload_n 0, 1) := by decide +kernel
theorem dX8_placeAnew_17 : decode cX8_placeAnew 17 = .ok (.getfield 102, 3) := by decide +kernel
theorem dX8_placeAnew_20 : decode cX8_placeAnew 20 = .ok (.ifCond .le 5, 3) := by decide +kernel
theorem dX8_placeAnew_23 : decode cX8_placeAnew 23 = .ok (.iconst 0, 1) := by decide +kernel
theorem dX8_placeAnew_24 : decode cX8_placeAnew 24 = .ok (.ireturn, 1) := by decide +kernel
theorem dX8_placeAnew_25 : decode cX8_placeAnew 25 = .ok (.iconst 0, 1) := by decide +kernel
theorem dX8_placeAnew_26 : decode cX8_placeAnew 26 = .ok (.istore_n 2, 1) := by decide +kernel
theorem dX8_placeAnew_27 : decode cX8_placeAnew 27 = .ok (.iload_n 2, 1) := by decide +kernel
theorem dX8_placeAnew_28 : decode cX8_placeAnew 28 = .ok (.aload_n 0, 1) := by decide +kernel
theorem dX8_placeAnew_29 : decode cX8_placeAnew 29 = .ok (.getfield 112, 3) := by decide +kernel
theorem dX8_placeAnew_32 : decode cX8_placeAnew 32 = .ok (.if_icmp .ge 29, 3) := by decide +kernel
theorem dX8_placeAnew_35 : decode cX8_placeAnew 35 = .ok (.aload_n 0, 1) := by decide +kernel
theorem dX8_placeAnew_36 : decode cX8_placeAnew 36 = .ok (.getfield 87, 3) := by decide +kernel
theorem dX8_placeAnew_39 : decode cX8_placeAnew 39 = .ok (.iload_n 2, 1) := by decide +kernel
theorem dX8_placeAnew_40 : decode cX8_placeAnew 40 = .ok (.aload_n 0, 1) := by decide +kernel
theorem dX8_placeAnew_41 : decode cX8_placeAnew 41 = .ok (.iload_n 2, 1) := by decide +kernel
theorem dX8_placeAnew_42 : decode cX8_placeAnew 42 = .ok (.invokevirtual 180, 3) := by decide +kernel
theorem dX8_placeAnew_45 : decode cX8_placeAnew 45 = .ok (.iconst (-1), 1) := by decide +kernel
theorem dX8_placeAnew_46 : decode cX8_placeAnew 46 = .ok (.if_icmp .ne 7, 3) := by decide +kernel
theorem dX8_placeAnew_49 : decode cX8_placeAnew 49 = .ok (.iconst 0, 1) := by decide +kernel
theorem dX8_placeAnew_50 : decode cX8_placeAnew 50 = .ok (.goto 4, 3) := by decide +kernel
theorem dX8_placeAnew_53 : decode cX8_placeAnew 53 = .ok (.iconst 1, 1) := by decide +kernel
theorem dX8_placeAnew_54 : decode cX8_placeAnew 54 = .ok (.iastore, 1) := by decide +kernel
theorem dX8_placeAnew_55 : decode cX8_placeAnew 55 = .ok (.iinc 2 1, 3) := by decide +kernel
theorem dX8_placeAnew_58 : decode cX8_placeAnew 58 = .ok (.goto (-31), 3) := by decide +kernel
theorem dX8_placeAnew_61 : decode cX8_placeAnew 61 = .ok (.aload_n 0, 1) := by decide +kernel
theorem dX8_placeAnew_62 : decode cX8_placeAnew 62 = .ok (.invokevirtual 205, 3) := by decide +kernel
theorem dX8_placeAnew_65 : decode cX8_placeAnew 65 = .ok (.aload_n 0, 1) := by decide +kernel
theorem dX8_placeAnew_66 : decode cX8_placeAnew 66 = .ok (.iload_n 1, 1) := by decide +kernel
theorem dX8_placeAnew_67 : decode cX8_placeAnew 67 = .ok (.invokevirtual 218, 3) := by decide +kernel
theorem dX8_placeAnew_70 : decode cX8_placeAnew 70 = .ok (.ireturn, 1) := by decide +kernel
theorem dX8_hack_0 : decode cX8_hack 0 = .ok (.aload_n 0, 1) := by decide +kernel
theorem dX8_hack_1 : decode cX8_hack 1 = .ok (.iload_n 1, 1) := by decide +kernel
theorem dX8_hack_2 : decode cX8_hack 2 = .ok (.invokestatic 183, 3) := by decide +kernel
theorem dX8_hack_5 : decode cX8_hack 5 = .ok (.ifCond .eq 15, 3) := by decide +kernel
theorem dX8_hack_8 : decode cX8_hack 8 = .ok (.aload_n 0, 1) := by decide +kernel
theorem dX8_hack_9 : decode cX8_hack 9 = .ok (.iload_n 2, 1) := by decide +kernel
theorem dX8_hack_10 : decode cX8_hack 10 = .ok (.invokevirtual 192, 3) := by decide +kernel
theorem dX8_hack_13 : decode cX8_hack 13 = .ok (.ifCond .eq 7, 3) := by decide +kernel
theorem dX8_hack_16 : decode cX8_hack 16 = .ok (.iconst 0, 1) := by decide +kernel
theorem dX8_hack_17 : decode cX8_hack 17 = .ok (.goto 4, 3) := by decide +kernel
theorem dX8_hack_20 : decode cX8_hack 20 = .ok (.iconst 1, 1) := by decide +kernel
theorem dX8_hack_21 : decode cX8_hack 21 = .ok (.putfield 102, 3) := by decide +kernel
theorem dX8_hack_24 : decode cX8_hack 24 = .ok (.aload_n 0, 1) := by decide +kernel
theorem dX8_hack_25 : decode cX8_hack 25 = .ok (.getfield 102, 3) := by decide +kernel
theorem dX8_hack_28 : decode cX8_hack 28 = .ok (.ifCond .le 5, 3) := by decide +kernel
theorem dX8_hack_31 : decode cX8_hack 31 = .ok (.iconst 0, 1) := by decide +kernel
theorem dX8_hack_32 : decode cX8_hack 32 = .ok (.ireturn, 1) := by decide +kernel
theorem dX8_hack_33 : decode cX8_hack 33 = .ok (.aload_n 0, 1) := by decide +kernel
theorem dX8_hack_34 : decode cX8_hack 34 = .ok (.getfield 46, 3) := by decide +kernel
theorem dX8_hack_37 : decode cX8_hack 37 = .ok (.iload_n 2, 1) := by decide +kernel
theorem dX8_hack_38 : decode cX8_hack 38 = .ok (.iaload, 1) := by decide +kernel
theorem dX8_hack_39 : decode cX8_hack 39 = .ok (.istore_n 3, 1) := by decide +kernel
theorem dX8_hack_40 : decode cX8_hack 40 = .ok (.aload_n 0, 1) := by decide +kernel
theorem dX8_hack_41 : decode cX8_hack 41 = .ok (.iconst 0, 1) := by decide +kernel
theorem dX8_hack_42 : decode cX8_hack 42 = .ok (.invokevirtual 211, 3) := by decide +kernel
theorem dX8_hack_45 : decode cX8_hack 45 = .ok (.aload_n 0, 1) := by decide +kernel
theorem dX8_hack_46 : decode cX8_hack 46 = .ok (.iload_n 1, 1) := by decide +kernel
theorem dX8_hack_47 : decode cX8_hack 47 = .ok (.iload_n 3, 1) := by decide +kernel
theorem dX8_hack_48 : decode cX8_hack 48 = .ok (.invokevirtual 198, 3) := by decide +kernel
theorem dX8_hack_51 : decode cX8_hack 51 = .ok (.iconst (-1), 1) := by decide +kernel
theorem dX8_hack_52 : decode cX8_hack 52 = .ok (.if_icmp .eq 37, 3) := by decide +kernel
theorem dX8_hack_55 : decode cX8_hack 55 = .ok (.aload_n 0, 1) := by decide +kernel
theorem dX8_hack_56 : decode cX8_hack 56 = .ok (.getfield 43, 3) := by decide +kernel
theorem dX8_hack_59 : decode cX8_hack 59 = .ok (.iload_n 2, 1) := by decide +kernel
theorem dX8_hack_60 : decode cX8_hack 60 = .ok (.iaload, 1) := by decide +kernel
theorem dX8_hack_61 : decode cX8_hack 61 = .ok (.iload_n 1, 1) := by decide +kernel
theorem dX8_hack_62 : decode cX8_hack 62 = .ok (.if_icmp .eq 27, 3) := by decide +kernel
theorem dX8_hack_65 : decode cX8_hack 65 = .ok (.aload_n 0, 1) := by decide +kernel
theorem dX8_hack_66 : decode cX8_hack 66 = .ok (.getfield 52, 3) := by decide +kernel
theorem dX8_hack_69 : decode cX8_hack 69 = .ok (.iload_n 2, 1) := by decide +kernel
theorem dX8_hack_70 : decode cX8_hack 70 = .ok (.iaload, 1) := by decide +kernel
theorem dX8_hack_71 : decode cX8_hack 71 = .ok (.ifCond .ne 18, 3) := by decide +kernel
theorem dX8_hack_74 : decode cX8_hack 74 = .ok (.aload_n 0, 1) := by decide +kernel
theorem dX8_hack_75 : decode cX8_hack 75 = .ok (.getfield 34, 3) := by decide +kernel
theorem dX8_hack_78 : decode cX8_hack 78 = .ok (.iload_n 3, 1) := by decide +kernel
theorem dX8_hack_79 : decode cX8_hack 79 = .ok (.iaload, 1) := by decide +kernel
theorem dX8_hack_80 : decode cX8_hack 80 = .ok (.bipush 12, 2) := by decide +kernel
theorem dX8_hack_82 : decode cX8_hack 82 = .ok (.if_icmp .ge 7, 3) := by decide +kernel
theorem dX8_hack_85 : decode cX8_hack 85 = .ok (.iconst 1, 1) := by decide +kernel
theorem dX8_hack_86 : decode cX8_hack 86 = .ok (.goto 4, 3) := by decide +kernel
theorem dX8_hack_89 : decode cX8_hack 89 = .ok (.iconst 0, 1) := by decide +kernel
theorem dX8_hack_90 : decode cX8_hack 90 = .ok (.istore 4, 2) := by decide +kernel
theorem dX8_hack_92 : decode cX8_hack 92 = .ok (.aload_n 0, 1) := by decide +kernel
theorem dX8_hack_93 : decode cX8_hack 93 = .ok (.iload 4, 2) := by decide +kernel
theorem dX8_hack_95 : decode cX8_hack 95 = .ok (.ifCond .eq 19, 3) := by decide +kernel
theorem dX8_hack_98 : decode cX8_hack 98 = .ok (.aload_n 0, 1) := by decide +kernel
theorem dX8_hack_99 : decode cX8_hack 99 = .ok (.iconst 1, 1) := by decide +kernel
theorem dX8_hack_100 : decode cX8_hack 100 = .ok (.iload_n 3, 1) := by decide +kernel
theorem dX8_hack_101 : decode cX8_hack 101 = .ok (.iadd, 1) := by decide +kernel
theorem dX8_hack_102 : decode cX8_hack 102 = .ok (.bipush 72, 2) := by decide +kernel
theorem dX8_hack_104 : decode cX8_hack 104 = .ok (.invokevirtual 169, 3) := by decide +kernel
theorem dX8_hack_107 : decode cX8_hack 107 = .ok (.ifCond .eq 7, 3) := by decide +kernel
theorem dX8_hack_110 : decode cX8_hack 110 = .ok (.iconst 0, 1) := by decide +kernel
theorem dX8_hack_111 : decode cX8_hack 111 = .ok (.goto 4, 3) := by decide +kernel
theorem dX8_hack_114 : decode cX8_hack 114 = .ok (.iconst 2, 1) := by decide +kernel
theorem dX8_hack_115 : decode cX8_hack 115 = .ok (.putfield 102, 3) := by decide +kernel
theorem dX8_hack_118 : decode cX8_hack 118 = .ok (.aload_n 0, 1) := by decide +kernel
theorem dX8_hack_119 : decode cX8_hack 119 = .ok (.getfield 102, 3) := by decide +kernel
theorem dX8_hack_122 : decode cX8_hack 122 = .ok (.ifCond .le 5, 3) := by decide +kernel
theorem dX8_hack_125 : decode cX8_hack 125 = .ok (.iconst 0, 1) := by decide +kernel
theorem dX8_hack_126 : decode cX8_hack 126 = .ok (.ireturn, 1) := by decide +kernel
theorem dX8_hack_127 : decode cX8_hack 127 = .ok (.aload_n 0, 1) := by decide +kernel
theorem dX8_hack_128 : decode cX8_hack 128 = .ok (.iload_n 3, 1) := by decide +kernel
theorem dX8_hack_129 : decode cX8_hack 129 = .ok (.bipush 7, 2) := by decide +kernel
theorem dX8_hack_131 : decode cX8_hack 131 = .ok (.iload_n 2, 1) := by decide +kernel
theorem dX8_hack_132 : decode cX8_hack 132 = .ok (.iadd, 1) := by decide +kernel
theorem dX8_hack_133 : decode cX8_hack 133 = .ok (.bipush 72, 2) := by decide +kernel
theorem dX8_hack_135 : decode cX8_hack 135 = .ok (.invokevirtual 176, 3) := by decide +kernel
theorem dX8_hack_138 : decode cX8_hack 138 = .ok (.ifCond .eq 7, 3) := by decide +kernel
theorem dX8_hack_141 : decode cX8_hack 141 = .ok (.iconst 1, 1) := by decide +kernel
theorem dX8_hack_142 : decode cX8_hack 142 = .ok (.goto 4, 3) := by decide +kernel
theorem dX8_hack_145 : decode cX8_hack 145 = .ok (.iconst 0, 1) := by decide +kernel
theorem dX8_hack_146 : decode cX8_hack 146 = .ok (.istore 5, 2) := by decide +kernel
theorem dX8_hack_148 : decode cX8_hack 148 = .ok (.aload_n 0, 1) := by decide +kernel
theorem dX8_hack_149 : decode cX8_hack 149 = .ok (.getfield 67, 3) := by decide +kernel
theorem dX8_hack_152 : decode cX8_hack 152 = .ok (.iload_n 1, 1) := by decide +kernel
theorem dX8_hack_153 : decode cX8_hack 153 = .ok (.dup2, 1) := by decide +kernel
theorem dX8_hack_154 : decode cX8_hack 154 = .ok (.iaload, 1) := by decide +kernel
theorem dX8_hack_155 : decode cX8_hack 155 = .ok (.iload 5, 2) := by decide +kernel
theorem dX8_hack_157 : decode cX8_hack 157 = .ok (.ifCond .eq 7, 3) := by decide +kernel
theorem dX8_hack_160 : decode cX8_hack 160 = .ok (.iconst 1, 1) := by decide +kernel
theorem dX8_hack_161 : decode cX8_hack 161 = .ok (.goto 4, 3) := by decide +kernel
theorem dX8_hack_164 : decode cX8_hack 164 = .ok (.iconst (-1), 1) := by decide +kernel
theorem dX8_hack_165 : decode cX8_hack 165 = .ok (.iadd, 1) := by decide +kernel
theorem dX8_hack_166 : decode cX8_hack 166 = .ok (.iastore, 1) := by decide +kernel
theorem dX8_hack_167 : decode cX8_hack 167 = .ok (.iload 5, 2) := by decide +kernel
theorem dX8_hack_169 : decode cX8_hack 169 = .ok (.ifCond .eq 14, 3) := by decide +kernel
theorem dX8_hack_172 : decode cX8_hack 172 = .ok (.aload_n 0, 1) := by decide +kernel
theorem dX8_hack_173 : decode cX8_hack 173 = .ok (.iload_n 3, 1) := by decide +kernel
theorem dX8_hack_174 : decode cX8_hack 174 = .ok (.iconst 3, 1) := by decide +kernel
theorem dX8_hack_175 : decode cX8_hack 175 = .ok (.invokevirtual 173, 3) := by decide +kernel
theorem dX8_hack_178 : decode cX8_hack 178 = .ok (.aload_n 0, 1) := by decide +kernel
theorem dX8_hack_179 : decode cX8_hack 179 = .ok (.iload_n 2, 1) := by decide +kernel
theorem dX8_hack_180 : decode cX8_hack 180 = .ok (.invokevirtual 189, 3) := by decide +kernel
theorem dX8_hack_183 : decode cX8_hack 183 = .ok (.aload_n 0, 1) := by decide +kernel
theorem dX8_hack_184 : decode cX8_hack 184 = .ok (.getfield 19, 3) := by decide +kernel
theorem dX8_hack_187 : decode cX8_hack 187 = .ok (.bipush 72, 2) := by decide +kernel
theorem dX8_hack_189 : decode cX8_hack 189 = .ok (.iconst 0, 1) := by decide +kernel
theorem dX8_hack_190 : decode cX8_hack 190 = .ok (.iastore, 1) := by decide +kernel
theorem dX8_hack_191 : decode cX8_hack 191 = .ok (.iload 5, 2) := by decide +kernel
theorem dX8_hack_193 : decode cX8_hack 193 = .ok (.ireturn, 1) := by decide +kernel
end
section
theorem dL_code_0 : decode cL_code 0 = .ok (.aload_n 3, 1) := by decide +kernel
theorem dL_code_1 : decode cL_code 1 = .ok (.iconst 0, 1) := by decide +kernel
theorem dL_code_2 : decode cL_code 2 = .ok (.aload_n 0, 1) := by decide +kernel
theorem dL_code_3 : decode cL_code 3 = .ok (.iload_n 1, 1) := by decide +kernel
theorem dL_code_4 : decode cL_code 4 = .ok (.iload_n 2, 1) := by decide +kernel
theorem dL_code_5 : decode cL_code 5 = .ok (.invokevirtual 7, 3) := by decide +kernel
theorem dL_code_8 : decode cL_code 8 = .ok (.i2l, 1) := by decide +kernel
theorem dL_code_9 : decode cL_code 9 = .ok (.lastore, 1) := by decide +kernel
theorem dL_code_10 : decode cL_code 10 = .ok (.goto 11, 3) := by decide +kernel
theorem dL_code_13 : decode cL_code 13 = .ok (.astore 4, 2) := by decide +kernel
theorem dL_code_15 : decode cL_code 15 = .ok (.iconst 1, 1) := by decide +kernel
theorem dL_code_16 : decode cL_code 16 = .ok (.ireturn, 1) := by decide +kernel
theorem dL_code_17 : decode cL_code 17 = .ok (.astore 4, 2) := by decide +kernel
theorem dL_code_19 : decode cL_code 19 = .ok (.iconst 2, 1) := by decide +kernel
theorem dL_code_20 : decode cL_code 20 = .ok (.ireturn, 1) := by decide +kernel
theorem dL_code_21 : decode cL_code 21 = .ok (.iconst 0, 1) := by decide +kernel
theorem dL_code_22 : decode cL_code 22 = .ok (.ireturn, 1) := by decide +kernel
theorem dL_input_0 : decode cL_input 0 = .ok (.aload_n 2, 1) := by decide +kernel
theorem dL_input_1 : decode cL_input 1 = .ok (.iconst 0, 1) := by decide +kernel
theorem dL_input_2 : decode cL_input 2 = .ok (.aload_n 0, 1) := by decide +kernel
theorem dL_input_3 : decode cL_input 3 = .ok (.iload_n 1, 1) := by decide +kernel
theorem dL_input_4 : decode cL_input 4 = .ok (.invokevirtual 17, 3) := by decide +kernel
theorem dL_input_7 : decode cL_input 7 = .ok (.i2l, 1) := by decide +kernel
theorem dL_input_8 : decode cL_input 8 = .ok (.lastore, 1) := by decide +kernel
theorem dL_input_9 : decode cL_input 9 = .ok (.goto 9, 3) := by decide +kernel
theorem dL_input_12 : decode cL_input 12 = .ok (.astore_n 3, 1) := by decide +kernel
theorem dL_input_13 : decode cL_input 13 = .ok (.iconst 1, 1) := by decide +kernel
theorem dL_input_14 : decode cL_input 14 = .ok (.ireturn, 1) := by decide +kernel
theorem dL_input_15 : decode cL_input 15 = .ok (.astore_n 3, 1) := by decide +kernel
theorem dL_input_16 : decode cL_input 16 = .ok (.iconst 2, 1) := by decide +kernel
theorem dL_input_17 : decode cL_input 17 = .ok (.ireturn, 1) := by decide +kernel
theorem dL_input_18 : decode cL_input 18 = .ok (.iconst 0, 1) := by decide +kernel
theorem dL_input_19 : decode cL_input 19 = .ok (.ireturn, 1) := by decide +kernel
theorem dL_run_0 : decode cL_run 0 = .ok (.aload_n 3, 1) := by decide +kernel
theorem dL_run_1 : decode cL_run 1 = .ok (.iconst 0, 1) := by decide +kernel
theorem dL_run_2 : decode cL_run 2 = .ok (.aload_n 0, 1) := by decide +kernel
theorem dL_run_3 : decode cL_run 3 = .ok (.iload_n 1, 1) := by decide +kernel
theorem dL_run_4 : decode cL_run 4 = .ok (.iload_n 2, 1) := by decide +kernel
theorem dL_run_5 : decode cL_run 5 = .ok (.invokevirtual 21, 3) := by decide +kernel
theorem dL_run_8 : decode cL_run 8 = .ok (.i2l, 1) := by decide +kernel
theorem dL_run_9 : decode cL_run 9 = .ok (.lastore, 1) := by decide +kernel
theorem dL_run_10 : decode cL_run 10 = .ok (.goto 7, 3) := by decide +kernel
theorem dL_run_13 : decode cL_run 13 = .ok (.astore 4, 2) := by decide +kernel
theorem dL_run_15 : decode cL_run 15 = .ok (.iconst 1, 1) := by decide +kernel
theorem dL_run_16 : decode cL_run 16 = .ok (.ireturn, 1) := by decide +kernel
theorem dL_run_17 : decode cL_run 17 = .ok (.iconst 0, 1) := by decide +kernel
theorem dL_run_18 : decode cL_run 18 = .ok (.ireturn, 1) := by decide +kernel
theorem dL_problem_0 : decode cL_problem 0 = .ok (.aload_n 3, 1) := by decide +kernel
theorem dL_problem_1 : decode cL_problem 1 = .ok (.iconst 0, 1) := by decide +kernel
theorem dL_problem_2 : decode cL_problem 2 = .ok (.aload_n 0, 1) := by decide +kernel
theorem dL_problem_3 : decode cL_problem 3 = .ok (.iload_n 1, 1) := by decide +kernel
theorem dL_problem_4 : decode cL_problem 4 = .ok (.iload_n 2, 1) := by decide +kernel
theorem dL_problem_5 : decode cL_problem 5 = .ok (.invokevirtual 24, 3) := by decide +kernel
theorem dL_problem_8 : decode cL_problem 8 = .ok (.i2l, 1) := by decide +kernel
theorem dL_problem_9 : decode cL_problem 9 = .ok (.lastore, 1) := by decide +kernel
theorem dL_problem_10 : decode cL_problem 10 = .ok (.goto 11, 3) := by decide +kernel
theorem dL_problem_13 : decode cL_problem 13 = .ok (.astore 4, 2) := by decide +kernel
theorem dL_problem_15 : decode cL_problem 15 = .ok (.iconst 1, 1) := by decide +kernel
theorem dL_problem_16 : decode cL_problem 16 = .ok (.ireturn, 1) := by decide +kernel
theorem dL_problem_17 : decode cL_problem 17 = .ok (.astore 4, 2) := by decide +kernel
theorem dL_problem_19 : decode cL_problem 19 = .ok (.iconst 2, 1) := by decide +kernel
theorem dL_problem_20 : decode cL_problem 20 = .ok (.ireturn, 1) := by decide +kernel
theorem dL_problem_21 : decode cL_problem 21 = .ok (.iconst 0, 1) := by decide +kernel
theorem dL_problem_22 : decode cL_problem 22 = .ok (.ireturn, 1) := by decide +kernel
theorem dL_test_0 : decode cL_test 0 = .ok (.aload_n 3, 1) := by decide +kernel
theorem dL_test_1 : decode cL_test 1 = .ok (.iconst 0, 1) := by decide +kernel
theorem dL_test_2 : decode cL_test 2 = .ok (.aload_n 0, 1) := by decide +kernel
theorem dL_test_3 : decode cL_test 3 = .ok (.iload_n 1, 1) := by decide +kernel
theorem dL_test_4 : decode cL_test 4 = .ok (.iload_n 2, 1) := by decide +kernel
theorem dL_test_5 : decode cL_test 5 = .ok (.invokevirtual 27, 3) := by decide +kernel
theorem dL_test_8 : decode cL_test 8 = .ok (.i2l, 1) := by decide +kernel
theorem dL_test_9 : decode cL_test 9 = .ok (.lastore, 1) := by decide +kernel
theorem dL_test_10 : decode cL_test 10 = .ok (.goto 11, 3) := by decide +kernel
theorem dL_test_13 : decode cL_test 13 = .ok (.astore 4, 2) := by decide +kernel
theorem dL_test_15 : decode cL_test 15 = .ok (.iconst 1, 1) := by decide +kernel
theorem dL_test_16 : decode cL_test 16 = .ok (.ireturn, 1) := by decide +kernel
theorem dL_test_17 : decode cL_test 17 = .ok (.astore 4, 2) := by decide +kernel
theorem dL_test_19 : decode cL_test 19 = .ok (.iconst 2, 1) := by decide +kernel
theorem dL_test_20 : decode cL_test 20 = .ok (.ireturn, 1) := by decide +kernel
theorem dL_test_21 : decode cL_test 21 = .ok (.iconst 0, 1) := by decide +kernel
theorem dL_test_22 : decode cL_test 22 = .ok (.ireturn, 1) := by decide +kernel
theorem dL_points_0 : decode cL_points 0 = .ok (.aload 4, 2) := by decide +kernel
theorem dL_points_2 : decode cL_points 2 = .ok (.iconst 0, 1) := by decide +kernel
theorem dL_points_3 : decode cL_points 3 = .ok (.aload_n 0, 1) := by decide +kernel
theorem dL_points_4 : decode cL_points 4 = .ok (.iload_n 1, 1) := by decide +kernel
theorem dL_points_5 : decode cL_points 5 = .ok (.iload_n 2, 1) := by decide +kernel
theorem dL_points_6 : decode cL_points 6 = .ok (.iload_n 3, 1) := by decide +kernel
theorem dL_points_7 : decode cL_points 7 = .ok (.invokevirtual 32, 3) := by decide +kernel
theorem dL_points_10 : decode cL_points 10 = .ok (.i2l, 1) := by decide +kernel
theorem dL_points_11 : decode cL_points 11 = .ok (.lastore, 1) := by decide +kernel
theorem dL_points_12 : decode cL_points 12 = .ok (.goto 11, 3) := by decide +kernel
theorem dL_points_15 : decode cL_points 15 = .ok (.astore 5, 2) := by decide +kernel
theorem dL_points_17 : decode cL_points 17 = .ok (.iconst 1, 1) := by decide +kernel
theorem dL_points_18 : decode cL_points 18 = .ok (.ireturn, 1) := by decide +kernel
theorem dL_points_19 : decode cL_points 19 = .ok (.astore 5, 2) := by decide +kernel
theorem dL_points_21 : decode cL_points 21 = .ok (.iconst 2, 1) := by decide +kernel
theorem dL_points_22 : decode cL_points 22 = .ok (.ireturn, 1) := by decide +kernel
theorem dL_points_23 : decode cL_points 23 = .ok (.iconst 0, 1) := by decide +kernel
theorem dL_points_24 : decode cL_points 24 = .ok (.ireturn, 1) := by decide +kernel
theorem dL_mend_0 : decode cL_mend 0 = .ok (.aload_n 3, 1) := by decide +kernel
theorem dL_mend_1 : decode cL_mend 1 = .ok (.iconst 0, 1) := by decide +kernel
theorem dL_mend_2 : decode cL_mend 2 = .ok (.aload_n 0, 1) := by decide +kernel
theorem dL_mend_3 : decode cL_mend 3 = .ok (.iload_n 1, 1) := by decide +kernel
theorem dL_mend_4 : decode cL_mend 4 = .ok (.iload_n 2, 1) := by decide +kernel
theorem dL_mend_5 : decode cL_mend 5 = .ok (.invokevirtual 36, 3) := by decide +kernel
theorem dL_mend_8 : decode cL_mend 8 = .ok (.i2l, 1) := by decide +kernel
theorem dL_mend_9 : decode cL_mend 9 = .ok (.lastore, 1) := by decide +kernel
theorem dL_mend_10 : decode cL_mend 10 = .ok (.goto 15, 3) := by decide +kernel
theorem dL_mend_13 : decode cL_mend 13 = .ok (.astore 4, 2) := by decide +kernel
theorem dL_mend_15 : decode cL_mend 15 = .ok (.iconst 1, 1) := by decide +kernel
theorem dL_mend_16 : decode cL_mend 16 = .ok (.ireturn, 1) := by decide +kernel
theorem dL_mend_17 : decode cL_mend 17 = .ok (.astore 4, 2) := by decide +kernel
theorem dL_mend_19 : decode cL_mend 19 = .ok (.iconst 2, 1) := by decide +kernel
theorem dL_mend_20 : decode cL_mend 20 = .ok (.ireturn, 1) := by decide +kernel
theorem dL_mend_21 : decode cL_mend 21 = .ok (.astore 4, 2) := by decide +kernel
theorem dL_mend_23 : decode cL_mend 23 = .ok (.iconst 3, 1) := by decide +kernel
theorem dL_mend_24 : decode cL_mend 24 = .ok (.ireturn, 1) := by decide +kernel
theorem dL_mend_25 : decode cL_mend 25 = .ok (.iconst 0, 1) := by decide +kernel
theorem dL_mend_26 : decode cL_mend 26 = .ok (.ireturn, 1) := by decide +kernel
theorem dL_answer_0 : decode cL_answer 0 = .ok (.aload 4, 2) := by decide +kernel
theorem dL_answer_2 : decode cL_answer 2 = .ok (.iconst 0, 1) := by decide +kernel
theorem dL_answer_3 : decode cL_answer 3 = .ok (.aload_n 0, 1) := by decide +kernel
theorem dL_answer_4 : decode cL_answer 4 = .ok (.iload_n 1, 1) := by decide +kernel
theorem dL_answer_5 : decode cL_answer 5 = .ok (.iload_n 2, 1) := by decide +kernel
theorem dL_answer_6 : decode cL_answer 6 = .ok (.iload_n 3, 1) := by decide +kernel
theorem dL_answer_7 : decode cL_answer 7 = .ok (.invokevirtual 39, 3) := by decide +kernel
theorem dL_answer_10 : decode cL_answer 10 = .ok (.i2l, 1) := by decide +kernel
theorem dL_answer_11 : decode cL_answer 11 = .ok (.lastore, 1) := by decide +kernel
theorem dL_answer_12 : decode cL_answer 12 = .ok (.goto 7, 3) := by decide +kernel
theorem dL_answer_15 : decode cL_answer 15 = .ok (.astore 5, 2) := by decide +kernel
theorem dL_answer_17 : decode cL_answer 17 = .ok (.iconst 1, 1) := by decide +kernel
theorem dL_answer_18 : decode cL_answer 18 = .ok (.ireturn, 1) := by decide +kernel
theorem dL_answer_19 : decode cL_answer 19 = .ok (.iconst 0, 1) := by decide +kernel
theorem dL_answer_20 : decode cL_answer 20 = .ok (.ireturn, 1) := by decide +kernel
theorem dL_enter_0 : decode cL_enter 0 = .ok (.aload_n 3, 1) := by decide +kernel
theorem dL_enter_1 : decode cL_enter 1 = .ok (.iconst 0, 1) := by decide +kernel
theorem dL_enter_2 : decode cL_enter 2 = .ok (.aload_n 0, 1) := by decide +kernel
theorem dL_enter_3 : decode cL_enter 3 = .ok (.iload_n 1, 1) := by decide +kernel
theorem dL_enter_4 : decode cL_enter 4 = .ok (.iload_n 2, 1) := by decide +kernel
theorem dL_enter_5 : decode cL_enter 5 = .ok (.invokevirtual 42, 3) := by decide +kernel
theorem dL_enter_8 : decode cL_enter 8 = .ok (.i2l, 1) := by decide +kernel
theorem dL_enter_9 : decode cL_enter 9 = .ok (.lastore, 1) := by decide +kernel
theorem dL_enter_10 : decode cL_enter 10 = .ok (.goto 11, 3) := by decide +kernel
theorem dL_enter_13 : decode cL_enter 13 = .ok (.astore 4, 2) := by decide +kernel
theorem dL_enter_15 : decode cL_enter 15 = .ok (.iconst 1, 1) := by decide +kernel
theorem dL_enter_16 : decode cL_enter 16 = .ok (.ireturn, 1) := by decide +kernel
theorem dL_enter_17 : decode cL_enter 17 = .ok (.astore 4, 2) := by decide +kernel
theorem dL_enter_19 : decode cL_enter 19 = .ok (.iconst 2, 1) := by decide +kernel
theorem dL_enter_20 : decode cL_enter 20 = .ok (.ireturn, 1) := by decide +kernel
theorem dL_enter_21 : decode cL_enter 21 = .ok (.iconst 0, 1) := by decide +kernel
theorem dL_enter_22 : decode cL_enter 22 = .ok (.ireturn, 1) := by decide +kernel
theorem dL_pass_0 : decode cL_pass 0 = .ok (.aload_n 2, 1) := by decide +kernel
theorem dL_pass_1 : decode cL_pass 1 = .ok (.iconst 0, 1) := by decide +kernel
theorem dL_pass_2 : decode cL_pass 2 = .ok (.aload_n 0, 1) := by decide +kernel
theorem dL_pass_3 : decode cL_pass 3 = .ok (.iload_n 1, 1) := by decide +kernel
theorem dL_pass_4 : decode cL_pass 4 = .ok (.invokevirtual 45, 3) := by decide +kernel
theorem dL_pass_7 : decode cL_pass 7 = .ok (.i2l, 1) := by decide +kernel
theorem dL_pass_8 : decode cL_pass 8 = .ok (.lastore, 1) := by decide +kernel
theorem dL_pass_9 : decode cL_pass 9 = .ok (.goto 9, 3) := by decide +kernel
theorem dL_pass_12 : decode cL_pass 12 = .ok (.astore_n 3, 1) := by decide +kernel
theorem dL_pass_13 : decode cL_pass 13 = .ok (.iconst 1, 1) := by decide +kernel
theorem dL_pass_14 : decode cL_pass 14 = .ok (.ireturn, 1) := by decide +kernel
theorem dL_pass_15 : decode cL_pass 15 = .ok (.astore_n 3, 1) := by decide +kernel
theorem dL_pass_16 : decode cL_pass 16 = .ok (.iconst 2, 1) := by decide +kernel
theorem dL_pass_17 : decode cL_pass 17 = .ok (.ireturn, 1) := by decide +kernel
theorem dL_pass_18 : decode cL_pass 18 = .ok (.iconst 0, 1) := by decide +kernel
theorem dL_pass_19 : decode cL_pass 19 = .ok (.ireturn, 1) := by decide +kernel
theorem dL_rejudge_0 : decode cL_rejudge 0 = .ok (.aload_n 2, 1) := by decide +kernel
theorem dL_rejudge_1 : decode cL_rejudge 1 = .ok (.iconst 0, 1) := by decide +kernel
theorem dL_rejudge_2 : decode cL_rejudge 2 = .ok (.aload_n 0, 1) := by decide +kernel
theorem dL_rejudge_3 : decode cL_rejudge 3 = .ok (.iload_n 1, 1) := by decide +kernel
theorem dL_rejudge_4 : decode cL_rejudge 4 = .ok (.invokevirtual 48, 3) := by decide +kernel
theorem dL_rejudge_7 : decode cL_rejudge 7 = .ok (.i2l, 1) := by decide +kernel
theorem dL_rejudge_8 : decode cL_rejudge 8 = .ok (.lastore, 1) := by decide +kernel
theorem dL_rejudge_9 : decode cL_rejudge 9 = .ok (.goto 6, 3) := by decide +kernel
theorem dL_rejudge_12 : decode cL_rejudge 12 = .ok (.astore_n 3, 1) := by decide +kernel
theorem dL_rejudge_13 : decode cL_rejudge 13 = .ok (.iconst 1, 1) := by decide +kernel
theorem dL_rejudge_14 : decode cL_rejudge 14 = .ok (.ireturn, 1) := by decide +kernel
theorem dL_rejudge_15 : decode cL_rejudge 15 = .ok (.iconst 0, 1) := by decide +kernel
theorem dL_rejudge_16 : decode cL_rejudge 16 = .ok (.ireturn, 1) := by decide +kernel
theorem dL_entry_0 : decode cL_entry 0 = .ok (.aload_n 3, 1) := by decide +kernel
theorem dL_entry_1 : decode cL_entry 1 = .ok (.iconst 0, 1) := by decide +kernel
theorem dL_entry_2 : decode cL_entry 2 = .ok (.aload_n 0, 1) := by decide +kernel
theorem dL_entry_3 : decode cL_entry 3 = .ok (.iload_n 1, 1) := by decide +kernel
theorem dL_entry_4 : decode cL_entry 4 = .ok (.iload_n 2, 1) := by decide +kernel
theorem dL_entry_5 : decode cL_entry 5 = .ok (.invokevirtual 51, 3) := by decide +kernel
theorem dL_entry_8 : decode cL_entry 8 = .ok (.i2l, 1) := by decide +kernel
theorem dL_entry_9 : decode cL_entry 9 = .ok (.lastore, 1) := by decide +kernel
theorem dL_entry_10 : decode cL_entry 10 = .ok (.goto 11, 3) := by decide +kernel
theorem dL_entry_13 : decode cL_entry 13 = .ok (.astore 4, 2) := by decide +kernel
theorem dL_entry_15 : decode cL_entry 15 = .ok (.iconst 1, 1) := by decide +kernel
theorem dL_entry_16 : decode cL_entry 16 = .ok (.ireturn, 1) := by decide +kernel
theorem dL_entry_17 : decode cL_entry 17 = .ok (.astore 4, 2) := by decide +kernel
theorem dL_entry_19 : decode cL_entry 19 = .ok (.iconst 2, 1) := by decide +kernel
theorem dL_entry_20 : decode cL_entry 20 = .ok (.ireturn, 1) := by decide +kernel
theorem dL_entry_21 : decode cL_entry 21 = .ok (.iconst 0, 1) := by decide +kernel
theorem dL_entry_22 : decode cL_entry 22 = .ok (.ireturn, 1) := by decide +kernel
theorem dL_likeness_0 : decode cL_likeness 0 = .ok (.aload_n 3, 1) := by decide +kernel
theorem dL_likeness_1 : decode cL_likeness 1 = .ok (.iconst 0, 1) := by decide +kernel
theorem dL_likeness_2 : decode cL_likeness 2 = .ok (.aload_n 0, 1) := by decide +kernel
theorem dL_likeness_3 : decode cL_likeness 3 = .ok (.iload_n 1, 1) := by decide +kernel
theorem dL_likeness_4 : decode cL_likeness 4 = .ok (.iload_n 2, 1) := by decide +kernel
theorem dL_likeness_5 : decode cL_likeness 5 = .ok (.invokevirtual 54, 3) := by decide +kernel
theorem dL_likeness_8 : decode cL_likeness 8 = .ok (.i2l, 1) := by decide +kernel
theorem dL_likeness_9 : decode cL_likeness 9 = .ok (.lastore, 1) := by decide +kernel
theorem dL_likeness_10 : decode cL_likeness 10 = .ok (.goto 7, 3) := by decide +kernel
theorem dL_likeness_13 : decode cL_likeness 13 = .ok (.astore 4, 2) := by decide +kernel
theorem dL_likeness_15 : decode cL_likeness 15 = .ok (.iconst 1, 1) := by decide +kernel
theorem dL_likeness_16 : decode cL_likeness 16 = .ok (.ireturn, 1) := by decide +kernel
theorem dL_likeness_17 : decode cL_likeness 17 = .ok (.iconst 0, 1) := by decide +kernel
theorem dL_likeness_18 : decode cL_likeness 18 = .ok (.ireturn, 1) := by decide +kernel
theorem dL_freeze_0 : decode cL_freeze 0 = .ok (.aload_n 0, 1) := by decide +kernel
theorem dL_freeze_1 : decode cL_freeze 1 = .ok (.iload_n 1, 1) := by decide +kernel
theorem dL_freeze_2 : decode cL_freeze 2 = .ok (.invokevirtual 57, 3) := by decide +kernel
theorem dL_freeze_5 : decode cL_freeze 5 = .ok (.goto 6, 3) := by decide +kernel
theorem dL_freeze_8 : decode cL_freeze 8 = .ok (.astore_n 2, 1) := by decide +kernel
theorem dL_freeze_9 : decode cL_freeze 9 = .ok (.iconst 1, 1) := by decide +kernel
theorem dL_freeze_10 : decode cL_freeze 10 = .ok (.ireturn, 1) := by decide +kernel
theorem dL_freeze_11 : decode cL_freeze 11 = .ok (.iconst 0, 1) := by decide +kernel
theorem dL_freeze_12 : decode cL_freeze 12 = .ok (.ireturn, 1) := by decide +kernel
theorem dL_board_0 : decode cL_board 0 = .ok (.aload 4, 2) := by decide +kernel
theorem dL_board_2 : decode cL_board 2 = .ok (.iconst 0, 1) := by decide +kernel
theorem dL_board_3 : decode cL_board 3 = .ok (.aload_n 0, 1) := by decide +kernel
theorem dL_board_4 : decode cL_board 4 = .ok (.iload_n 1, 1) := by decide +kernel
theorem dL_board_5 : decode cL_board 5 = .ok (.iload_n 2, 1) := by decide +kernel
theorem dL_board_6 : decode cL_board 6 = .ok (.iload_n 3, 1) := by decide +kernel
theorem dL_board_7 : decode cL_board 7 = .ok (.invokevirtual 61, 3) := by decide +kernel
theorem dL_board_10 : decode cL_board 10 = .ok (.i2l, 1) := by decide +kernel
theorem dL_board_11 : decode cL_board 11 = .ok (.lastore, 1) := by decide +kernel
theorem dL_board_12 : decode cL_board 12 = .ok (.goto 11, 3) := by decide +kernel
theorem dL_board_15 : decode cL_board 15 = .ok (.astore 5, 2) := by decide +kernel
theorem dL_board_17 : decode cL_board 17 = .ok (.iconst 1, 1) := by decide +kernel
theorem dL_board_18 : decode cL_board 18 = .ok (.ireturn, 1) := by decide +kernel
theorem dL_board_19 : decode cL_board 19 = .ok (.astore 5, 2) := by decide +kernel
theorem dL_board_21 : decode cL_board 21 = .ok (.iconst 2, 1) := by decide +kernel
theorem dL_board_22 : decode cL_board 22 = .ok (.ireturn, 1) := by decide +kernel
theorem dL_board_23 : decode cL_board 23 = .ok (.iconst 0, 1) := by decide +kernel
theorem dL_board_24 : decode cL_board 24 = .ok (.ireturn, 1) := by decide +kernel
theorem dL_placeAnew_0 : decode cL_placeAnew 0 = .ok (.aload_n 2, 1) := by decide +kernel
theorem dL_placeAnew_1 : decode cL_placeAnew 1 = .ok (.iconst 0, 1) := by decide +kernel
theorem dL_placeAnew_2 : decode cL_placeAnew 2 = .ok (.aload_n 0, 1) := by decide +kernel
theorem dL_placeAnew_3 : decode cL_placeAnew 3 = .ok (.iload_n 1, 1) := by decide +kernel
theorem dL_placeAnew_4 : decode cL_placeAnew 4 = .ok (.invokevirtual 65, 3) := by decide +kernel
theorem dL_placeAnew_7 : decode cL_placeAnew 7 = .ok (.i2l, 1) := by decide +kernel
theorem dL_placeAnew_8 : decode cL_placeAnew 8 = .ok (.lastore, 1) := by decide +kernel
theorem dL_placeAnew_9 : decode cL_placeAnew 9 = .ok (.goto 6, 3) := by decide +kernel
theorem dL_placeAnew_12 : decode cL_placeAnew 12 = .ok (.astore_n 3, 1) := by decide +kernel
theorem dL_placeAnew_13 : decode cL_placeAnew 13 = .ok (.iconst 1, 1) := by decide +kernel
theorem dL_placeAnew_14 : decode cL_placeAnew 14 = .ok (.ireturn, 1) := by decide +kernel
theorem dL_placeAnew_15 : decode cL_placeAnew 15 = .ok (.iconst 0, 1) := by decide +kernel
theorem dL_placeAnew_16 : decode cL_placeAnew 16 = .ok (.ireturn, 1) := by decide +kernel
theorem dL_hack_0 : decode cL_hack 0 = .ok (.aload_n 3, 1) := by decide +kernel
theorem dL_hack_1 : decode cL_hack 1 = .ok (.iconst 0, 1) := by decide +kernel
theorem dL_hack_2 : decode cL_hack 2 = .ok (.aload_n 0, 1) := by decide +kernel
theorem dL_hack_3 : decode cL_hack 3 = .ok (.iload_n 1, 1) := by decide +kernel
theorem dL_hack_4 : decode cL_hack 4 = .ok (.iload_n 2, 1) := by decide +kernel
theorem dL_hack_5 : decode cL_hack 5 = .ok (.invokevirtual 68, 3) := by decide +kernel
theorem dL_hack_8 : decode cL_hack 8 = .ok (.ifCond .eq 7, 3) := by decide +kernel
theorem dL_hack_11 : decode cL_hack 11 = .ok (.lconst 1, 1) := by decide +kernel
theorem dL_hack_12 : decode cL_hack 12 = .ok (.goto 4, 3) := by decide +kernel
theorem dL_hack_15 : decode cL_hack 15 = .ok (.lconst 0, 1) := by decide +kernel
theorem dL_hack_16 : decode cL_hack 16 = .ok (.lastore, 1) := by decide +kernel
theorem dL_hack_17 : decode cL_hack 17 = .ok (.goto 11, 3) := by decide +kernel
theorem dL_hack_20 : decode cL_hack 20 = .ok (.astore 4, 2) := by decide +kernel
theorem dL_hack_22 : decode cL_hack 22 = .ok (.iconst 1, 1) := by decide +kernel
theorem dL_hack_23 : decode cL_hack 23 = .ok (.ireturn, 1) := by decide +kernel
theorem dL_hack_24 : decode cL_hack 24 = .ok (.astore 4, 2) := by decide +kernel
theorem dL_hack_26 : decode cL_hack 26 = .ok (.iconst 2, 1) := by decide +kernel
theorem dL_hack_27 : decode cL_hack 27 = .ok (.ireturn, 1) := by decide +kernel
theorem dL_hack_28 : decode cL_hack 28 = .ok (.iconst 0, 1) := by decide +kernel
theorem dL_hack_29 : decode cL_hack 29 = .ok (.ireturn, 1) := by decide +kernel
theorem dL_law_0 : decode cL_law 0 = .ok (.new 8, 3) := by decide +kernel
theorem dL_law_3 : decode cL_law 3 = .ok (.dup, 1) := by decide +kernel
theorem dL_law_4 : decode cL_law 4 = .ok (.invokespecial 72, 3) := by decide +kernel
theorem dL_law_7 : decode cL_law 7 = .ok (.astore_n 1, 1) := by decide +kernel
theorem dL_law_8 : decode cL_law 8 = .ok (.new 73, 3) := by decide +kernel
theorem dL_law_11 : decode cL_law 11 = .ok (.dup, 1) := by decide +kernel
theorem dL_law_12 : decode cL_law 12 = .ok (.invokespecial 75, 3) := by decide +kernel
theorem dL_law_15 : decode cL_law 15 = .ok (.astore_n 2, 1) := by decide +kernel
theorem dL_law_16 : decode cL_law 16 = .ok (.iconst 1, 1) := by decide +kernel
theorem dL_law_17 : decode cL_law 17 = .ok (.newarray .long, 2) := by decide +kernel
theorem dL_law_19 : decode cL_law 19 = .ok (.astore_n 3, 1) := by decide +kernel
theorem dL_law_20 : decode cL_law 20 = .ok (.iconst 0, 1) := by decide +kernel
theorem dL_law_21 : decode cL_law 21 = .ok (.istore 4, 2) := by decide +kernel
theorem dL_law_23 : decode cL_law 23 = .ok (.iload 4, 2) := by decide +kernel
theorem dL_law_25 : decode cL_law 25 = .ok (.aload_n 0, 1) := by decide +kernel
theorem dL_law_26 : decode cL_law 26 = .ok (.arraylength, 1) := by decide +kernel
theorem dL_law_27 : decode cL_law 27 = .ok (.iconst 4, 1) := by decide +kernel
theorem dL_law_28 : decode cL_law 28 = .ok (.isub, 1) := by decide +kernel
theorem dL_law_29 : decode cL_law 29 = .ok (.if_icmp .gt 1283, 3) := by decide +kernel
theorem dL_law_32 : decode cL_law 32 = .ok (.aload_n 0, 1) := by decide +kernel
theorem dL_law_33 : decode cL_law 33 = .ok (.iload 4, 2) := by decide +kernel
theorem dL_law_35 : decode cL_law 35 = .ok (.iaload, 1) := by decide +kernel
theorem dL_law_36 : decode cL_law 36 = .ok (.bipush 31, 2) := by decide +kernel
theorem dL_law_38 : decode cL_law 38 = .ok (.iand, 1) := by decide +kernel
theorem dL_law_39 : decode cL_law 39 = .ok (.tableswitch 1267 0 19 #[93, 161, 217, 230, 298, 366, 434, 514, 582, 662, 730, 786, 799, 855, 923, 991, 1027, 1040, 1136, 1192], 93) := by decide +kernel
theorem dL_law_132 : decode cL_law 132 = .ok (.aload_n 1, 1) := by decide +kernel
theorem dL_law_133 : decode cL_law 133 = .ok (.aload_n 0, 1) := by decide +kernel
theorem dL_law_134 : decode cL_law 134 = .ok (.iload 4, 2) := by decide +kernel
theorem dL_law_136 : decode cL_law 136 = .ok (.iconst 1, 1) := by decide +kernel
theorem dL_law_137 : decode cL_law 137 = .ok (.iadd, 1) := by decide +kernel
theorem dL_law_138 : decode cL_law 138 = .ok (.iaload, 1) := by decide +kernel
theorem dL_law_139 : decode cL_law 139 = .ok (.aload_n 0, 1) := by decide +kernel
theorem dL_law_140 : decode cL_law 140 = .ok (.iload 4, 2) := by decide +kernel
theorem dL_law_142 : decode cL_law 142 = .ok (.iconst 2, 1) := by decide +kernel
theorem dL_law_143 : decode cL_law 143 = .ok (.iadd, 1) := by decide +kernel
theorem dL_law_144 : decode cL_law 144 = .ok (.iaload, 1) := by decide +kernel
theorem dL_law_145 : decode cL_law 145 = .ok (.aload_n 3, 1) := by decide +kernel
theorem dL_law_146 : decode cL_law 146 = .ok (.invokestatic 76, 3) := by decide +kernel
theorem dL_law_149 : decode cL_law 149 = .ok (.istore 5, 2) := by decide +kernel
theorem dL_law_151 : decode cL_law 151 = .ok (.aload_n 2, 1) := by decide +kernel
theorem dL_law_152 : decode cL_law 152 = .ok (.aload_n 0, 1) := by decide +kernel
theorem dL_law_153 : decode cL_law 153 = .ok (.iload 4, 2) := by decide +kernel
theorem dL_law_155 : decode cL_law 155 = .ok (.iconst 1, 1) := by decide +kernel
theorem dL_law_156 : decode cL_law 156 = .ok (.iadd, 1) := by decide +kernel
theorem dL_law_157 : decode cL_law 157 = .ok (.iaload, 1) := by decide +kernel
theorem dL_law_158 : decode cL_law 158 = .ok (.aload_n 0, 1) := by decide +kernel
theorem dL_law_159 : decode cL_law 159 = .ok (.iload 4, 2) := by decide +kernel
theorem dL_law_161 : decode cL_law 161 = .ok (.iconst 2, 1) := by decide +kernel
theorem dL_law_162 : decode cL_law 162 = .ok (.iadd, 1) := by decide +kernel
theorem dL_law_163 : decode cL_law 163 = .ok (.iaload, 1) := by decide +kernel
theorem dL_law_164 : decode cL_law 164 = .ok (.invokevirtual 81, 3) := by decide +kernel
theorem dL_law_167 : decode cL_law 167 = .ok (.istore 6, 2) := by decide +kernel
theorem dL_law_169 : decode cL_law 169 = .ok (.aload_n 2, 1) := by decide +kernel
theorem dL_law_170 : decode cL_law 170 = .ok (.invokevirtual 82, 3) := by decide +kernel
theorem dL_law_173 : decode cL_law 173 = .ok (.iload 5, 2) := by decide +kernel
theorem dL_law_175 : decode cL_law 175 = .ok (.if_icmp .eq 5, 3) := by decide +kernel
theorem dL_law_178 : decode cL_law 178 = .ok (.iconst 0, 1) := by decide +kernel
theorem dL_law_179 : decode cL_law 179 = .ok (.ireturn, 1) := by decide +kernel
theorem dL_law_180 : decode cL_law 180 = .ok (.iload 5, 2) := by decide +kernel
theorem dL_law_182 : decode cL_law 182 = .ok (.ifCond .ne 15, 3) := by decide +kernel
theorem dL_law_185 : decode cL_law 185 = .ok (.aload_n 3, 1) := by decide +kernel
theorem dL_law_186 : decode cL_law 186 = .ok (.iconst 0, 1) := by decide +kernel
theorem dL_law_187 : decode cL_law 187 = .ok (.laload, 1) := by decide +kernel
theorem dL_law_188 : decode cL_law 188 = .ok (.iload 6, 2) := by decide +kernel
theorem dL_law_190 : decode cL_law 190 = .ok (.i2l, 1) := by decide +kernel
theorem dL_law_191 : decode cL_law 191 = .ok (.lcmp, 1) := by decide +kernel
theorem dL_law_192 : decode cL_law 192 = .ok (.ifCond .eq 5, 3) := by decide +kernel
theorem dL_law_195 : decode cL_law 195 = .ok (.iconst 0, 1) := by decide +kernel
theorem dL_law_196 : decode cL_law 196 = .ok (.ireturn, 1) := by decide +kernel
theorem dL_law_197 : decode cL_law 197 = .ok (.goto 1109, 3) := by decide +kernel
theorem dL_law_200 : decode cL_law 200 = .ok (.aload_n 1, 1) := by decide +kernel
theorem dL_law_201 : decode cL_law 201 = .ok (.aload_n 0, 1) := by decide +kernel
theorem dL_law_202 : decode cL_law 202 = .ok (.iload 4, 2) := by decide +kernel
theorem dL_law_204 : decode cL_law 204 = .ok (.iconst 1, 1) := by decide +kernel
theorem dL_law_205 : decode cL_law 205 = .ok (.iadd, 1) := by decide +kernel
theorem dL_law_206 : decode cL_law 206 = .ok (.iaload, 1) := by decide +kernel
theorem dL_law_207 : decode cL_law 207 = .ok (.aload_n 3, 1) := by decide +kernel
theorem dL_law_208 : decode cL_law 208 = .ok (.invokestatic 86, 3) := by decide +kernel
theorem dL_law_211 : decode cL_law 211 = .ok (.istore 5, 2) := by decide +kernel
theorem dL_law_213 : decode cL_law 213 = .ok (.aload_n 2, 1) := by decide +kernel
theorem dL_law_214 : decode cL_law 214 = .ok (.aload_n 0, 1) := by decide +kernel
theorem dL_law_215 : decode cL_law 215 = .ok (.iload 4, 2) := by decide +kernel
theorem dL_law_217 : decode cL_law 217 = .ok (.iconst 1, 1) := by decide +kernel
theorem dL_law_218 : decode cL_law 218 = .ok (.iadd, 1) := by decide +kernel
theorem dL_law_219 : decode cL_law 219 = .ok (.iaload, 1) := by decide +kernel
theorem dL_law_220 : decode cL_law 220 = .ok (.invokevirtual 89, 3) := by decide +kernel
theorem dL_law_223 : decode cL_law 223 = .ok (.istore 6, 2) := by decide +kernel
theorem dL_law_225 : decode cL_law 225 = .ok (.aload_n 2, 1) := by decide +kernel
theorem dL_law_226 : decode cL_law 226 = .ok (.invokevirtual 82, 3) := by decide +kernel
theorem dL_law_229 : decode cL_law 229 = .ok (.iload 5, 2) := by decide +kernel
theorem dL_law_231 : decode cL_law 231 = .ok (.if_icmp .eq 5, 3) := by decide +kernel
theorem dL_law_234 : decode cL_law 234 = .ok (.iconst 0, 1) := by decide +kernel
theorem dL_law_235 : decode cL_law 235 = .ok (.ireturn, 1) := by decide +kernel
theorem dL_law_236 : decode cL_law 236 = .ok (.iload 5, 2) := by decide +kernel
theorem dL_law_238 : decode cL_law 238 = .ok (.ifCond .ne 15, 3) := by decide +kernel
theorem dL_law_241 : decode cL_law 241 = .ok (.aload_n 3, 1) := by decide +kernel
theorem dL_law_242 : decode cL_law 242 = .ok (.iconst 0, 1) := by decide +kernel
theorem dL_law_243 : decode cL_law 243 = .ok (.laload, 1) := by decide +kernel
theorem dL_law_244 : decode cL_law 244 = .ok (.iload 6, 2) := by decide +kernel
theorem dL_law_246 : decode cL_law 246 = .ok (.i2l, 1) := by decide +kernel
theorem dL_law_247 : decode cL_law 247 = .ok (.lcmp, 1) := by decide +kernel
theorem dL_law_248 : decode cL_law 248 = .ok (.ifCond .eq 5, 3) := by decide +kernel
theorem dL_law_251 : decode cL_law 251 = .ok (.iconst 0, 1) := by decide +kernel
theorem dL_law_252 : decode cL_law 252 = .ok (.ireturn, 1) := by decide +kernel
theorem dL_law_253 : decode cL_law 253 = .ok (.goto 1053, 3) := by decide +kernel
theorem dL_law_256 : decode cL_law 256 = .ok (.aload_n 1, 1) := by decide +kernel
theorem dL_law_257 : decode cL_law 257 = .ok (.invokevirtual 90, 3) := by decide +kernel
theorem dL_law_260 : decode cL_law 260 = .ok (.aload_n 2, 1) := by decide +kernel
theorem dL_law_261 : decode cL_law 261 = .ok (.invokevirtual 93, 3) := by decide +kernel
theorem dL_law_264 : decode cL_law 264 = .ok (.if_icmp .eq 1042, 3) := by decide +kernel
theorem dL_law_267 : decode cL_law 267 = .ok (.iconst 0, 1) := by decide +kernel
theorem dL_law_268 : decode cL_law 268 = .ok (.ireturn, 1) := by decide +kernel
theorem dL_law_269 : decode cL_law 269 = .ok (.aload_n 1, 1) := by decide +kernel
theorem dL_law_270 : decode cL_law 270 = .ok (.aload_n 0, 1) := by decide +kernel
theorem dL_law_271 : decode cL_law 271 = .ok (.iload 4, 2) := by decide +kernel
theorem dL_law_273 : decode cL_law 273 = .ok (.iconst 1, 1) := by decide +kernel
theorem dL_law_274 : decode cL_law 274 = .ok (.iadd, 1) := by decide +kernel
theorem dL_law_275 : decode cL_law 275 = .ok (.iaload, 1) := by decide +kernel
theorem dL_law_276 : decode cL_law 276 = .ok (.aload_n 0, 1) := by decide +kernel
theorem dL_law_277 : decode cL_law 277 = .ok (.iload 4, 2) := by decide +kernel
theorem dL_law_279 : decode cL_law 279 = .ok (.iconst 2, 1) := by decide +kernel
theorem dL_law_280 : decode cL_law 280 = .ok (.iadd, 1) := by decide +kernel
theorem dL_law_281 : decode cL_law 281 = .ok (.iaload, 1) := by decide +kernel
theorem dL_law_282 : decode cL_law 282 = .ok (.aload_n 3, 1) := by decide +kernel
theorem dL_law_283 : decode cL_law 283 = .ok (.invokestatic 94, 3) := by decide +kernel
theorem dL_law_286 : decode cL_law 286 = .ok (.istore 5, 2) := by decide +kernel
theorem dL_law_288 : decode cL_law 288 = .ok (.aload_n 2, 1) := by decide +kernel
theorem dL_law_289 : decode cL_law 289 = .ok (.aload_n 0, 1) := by decide +kernel
theorem dL_law_290 : decode cL_law 290 = .ok (.iload 4, 2) := by decide +kernel
theorem dL_law_292 : decode cL_law 292 = .ok (.iconst 1, 1) := by decide +kernel
theorem dL_law_293 : decode cL_law 293 = .ok (.iadd, 1) := by decide +kernel
theorem dL_law_294 : decode cL_law 294 = .ok (.iaload, 1) := by decide +kernel
theorem dL_law_295 : decode cL_law 295 = .ok (.aload_n 0, 1) := by decide +kernel
theorem dL_law_296 : decode cL_law 296 = .ok (.iload 4, 2) := by decide +kernel
theorem dL_law_298 : decode cL_law 298 = .ok (.iconst 2, 1) := by decide +kernel
theorem dL_law_299 : decode cL_law 299 = .ok (.iadd, 1) := by decide +kernel
theorem dL_law_300 : decode cL_law 300 = .ok (.iaload, 1) := by decide +kernel
theorem dL_law_301 : decode cL_law 301 = .ok (.invokevirtual 96, 3) := by decide +kernel
theorem dL_law_304 : decode cL_law 304 = .ok (.istore 6, 2) := by decide +kernel
theorem dL_law_306 : decode cL_law 306 = .ok (.aload_n 2, 1) := by decide +kernel
theorem dL_law_307 : decode cL_law 307 = .ok (.invokevirtual 82, 3) := by decide +kernel
theorem dL_law_310 : decode cL_law 310 = .ok (.iload 5, 2) := by decide +kernel
theorem dL_law_312 : decode cL_law 312 = .ok (.if_icmp .eq 5, 3) := by decide +kernel
theorem dL_law_315 : decode cL_law 315 = .ok (.iconst 0, 1) := by decide +kernel
theorem dL_law_316 : decode cL_law 316 = .ok (.ireturn, 1) := by decide +kernel
theorem dL_law_317 : decode cL_law 317 = .ok (.iload 5, 2) := by decide +kernel
theorem dL_law_319 : decode cL_law 319 = .ok (.ifCond .ne 15, 3) := by decide +kernel
theorem dL_law_322 : decode cL_law 322 = .ok (.aload_n 3, 1) := by decide +kernel
theorem dL_law_323 : decode cL_law 323 = .ok (.iconst 0, 1) := by decide +kernel
theorem dL_law_324 : decode cL_law 324 = .ok (.laload, 1) := by decide +kernel
theorem dL_law_325 : decode cL_law 325 = .ok (.iload 6, 2) := by decide +kernel
theorem dL_law_327 : decode cL_law 327 = .ok (.i2l, 1) := by decide +kernel
theorem dL_law_328 : decode cL_law 328 = .ok (.lcmp, 1) := by decide +kernel
theorem dL_law_329 : decode cL_law 329 = .ok (.ifCond .eq 5, 3) := by decide +kernel
theorem dL_law_332 : decode cL_law 332 = .ok (.iconst 0, 1) := by decide +kernel
theorem dL_law_333 : decode cL_law 333 = .ok (.ireturn, 1) := by decide +kernel
theorem dL_law_334 : decode cL_law 334 = .ok (.goto 972, 3) := by decide +kernel
theorem dL_law_337 : decode cL_law 337 = .ok (.aload_n 1, 1) := by decide +kernel
theorem dL_law_338 : decode cL_law 338 = .ok (.aload_n 0, 1) := by decide +kernel
theorem dL_law_339 : decode cL_law 339 = .ok (.iload 4, 2) := by decide +kernel
theorem dL_law_341 : decode cL_law 341 = .ok (.iconst 1, 1) := by decide +kernel
theorem dL_law_342 : decode cL_law 342 = .ok (.iadd, 1) := by decide +kernel
theorem dL_law_343 : decode cL_law 343 = .ok (.iaload, 1) := by decide +kernel
theorem dL_law_344 : decode cL_law 344 = .ok (.aload_n 0, 1) := by decide +kernel
theorem dL_law_345 : decode cL_law 345 = .ok (.iload 4, 2) := by decide +kernel
theorem dL_law_347 : decode cL_law 347 = .ok (.iconst 2, 1) := by decide +kernel
theorem dL_law_348 : decode cL_law 348 = .ok (.iadd, 1) := by decide +kernel
theorem dL_law_349 : decode cL_law 349 = .ok (.iaload, 1) := by decide +kernel
theorem dL_law_350 : decode cL_law 350 = .ok (.aload_n 3, 1) := by decide +kernel
theorem dL_law_351 : decode cL_law 351 = .ok (.invokestatic 97, 3) := by decide +kernel
theorem dL_law_354 : decode cL_law 354 = .ok (.istore 5, 2) := by decide +kernel
theorem dL_law_356 : decode cL_law 356 = .ok (.aload_n 2, 1) := by decide +kernel
theorem dL_law_357 : decode cL_law 357 = .ok (.aload_n 0, 1) := by decide +kernel
theorem dL_law_358 : decode cL_law 358 = .ok (.iload 4, 2) := by decide +kernel
theorem dL_law_360 : decode cL_law 360 = .ok (.iconst 1, 1) := by decide +kernel
theorem dL_law_361 : decode cL_law 361 = .ok (.iadd, 1) := by decide +kernel
theorem dL_law_362 : decode cL_law 362 = .ok (.iaload, 1) := by decide +kernel
theorem dL_law_363 : decode cL_law 363 = .ok (.aload_n 0, 1) := by decide +kernel
theorem dL_law_364 : decode cL_law 364 = .ok (.iload 4, 2) := by decide +kernel
theorem dL_law_366 : decode cL_law 366 = .ok (.iconst 2, 1) := by decide +kernel
theorem dL_law_367 : decode cL_law 367 = .ok (.iadd, 1) := by decide +kernel
theorem dL_law_368 : decode cL_law 368 = .ok (.iaload, 1) := by decide +kernel
theorem dL_law_369 : decode cL_law 369 = .ok (.invokevirtual 99, 3) := by decide +kernel
theorem dL_law_372 : decode cL_law 372 = .ok (.istore 6, 2) := by decide +kernel
theorem dL_law_374 : decode cL_law 374 = .ok (.aload_n 2, 1) := by decide +kernel
theorem dL_law_375 : decode cL_law 375 = .ok (.invokevirtual 82, 3) := by decide +kernel
theorem dL_law_378 : decode cL_law 378 = .ok (.iload 5, 2) := by decide +kernel
theorem dL_law_380 : decode cL_law 380 = .ok (.if_icmp .eq 5, 3) := by decide +kernel
theorem dL_law_383 : decode cL_law 383 = .ok (.iconst 0, 1) := by decide +kernel
theorem dL_law_384 : decode cL_law 384 = .ok (.ireturn, 1) := by decide +kernel
theorem dL_law_385 : decode cL_law 385 = .ok (.iload 5, 2) := by decide +kernel
theorem dL_law_387 : decode cL_law 387 = .ok (.ifCond .ne 15, 3) := by decide +kernel
theorem dL_law_390 : decode cL_law 390 = .ok (.aload_n 3, 1) := by decide +kernel
theorem dL_law_391 : decode cL_law 391 = .ok (.iconst 0, 1) := by decide +kernel
theorem dL_law_392 : decode cL_law 392 = .ok (.laload, 1) := by decide +kernel
theorem dL_law_393 : decode cL_law 393 = .ok (.iload 6, 2) := by decide +kernel
theorem dL_law_395 : decode cL_law 395 = .ok (.i2l, 1) := by decide +kernel
theorem dL_law_396 : decode cL_law 396 = .ok (.lcmp, 1) := by decide +kernel
theorem dL_law_397 : decode cL_law 397 = .ok (.ifCond .eq 5, 3) := by decide +kernel
theorem dL_law_400 : decode cL_law 400 = .ok (.iconst 0, 1) := by decide +kernel
theorem dL_law_401 : decode cL_law 401 = .ok (.ireturn, 1) := by decide +kernel
theorem dL_law_402 : decode cL_law 402 = .ok (.goto 904, 3) := by decide +kernel
theorem dL_law_405 : decode cL_law 405 = .ok (.aload_n 1, 1) := by decide +kernel
theorem dL_law_406 : decode cL_law 406 = .ok (.aload_n 0, 1) := by decide +kernel
theorem dL_law_407 : decode cL_law 407 = .ok (.iload 4, 2) := by decide +kernel
theorem dL_law_409 : decode cL_law 409 = .ok (.iconst 1, 1) := by decide +kernel
theorem dL_law_410 : decode cL_law 410 = .ok (.iadd, 1) := by decide +kernel
theorem dL_law_411 : decode cL_law 411 = .ok (.iaload, 1) := by decide +kernel
theorem dL_law_412 : decode cL_law 412 = .ok (.aload_n 0, 1) := by decide +kernel
theorem dL_law_413 : decode cL_law 413 = .ok (.iload 4, 2) := by decide +kernel
theorem dL_law_415 : decode cL_law 415 = .ok (.iconst 2, 1) := by decide +kernel
theorem dL_law_416 : decode cL_law 416 = .ok (.iadd, 1) := by decide +kernel
theorem dL_law_417 : decode cL_law 417 = .ok (.iaload, 1) := by decide +kernel
theorem dL_law_418 : decode cL_law 418 = .ok (.aload_n 3, 1) := by decide +kernel
theorem dL_law_419 : decode cL_law 419 = .ok (.invokestatic 100, 3) := by decide +kernel
theorem dL_law_422 : decode cL_law 422 = .ok (.istore 5, 2) := by decide +kernel
theorem dL_law_424 : decode cL_law 424 = .ok (.aload_n 2, 1) := by decide +kernel
theorem dL_law_425 : decode cL_law 425 = .ok (.aload_n 0, 1) := by decide +kernel
theorem dL_law_426 : decode cL_law 426 = .ok (.iload 4, 2) := by decide +kernel
theorem dL_law_428 : decode cL_law 428 = .ok (.iconst 1, 1) := by decide +kernel
theorem dL_law_429 : decode cL_law 429 = .ok (.iadd, 1) := by decide +kernel
theorem dL_law_430 : decode cL_law 430 = .ok (.iaload, 1) := by decide +kernel
theorem dL_law_431 : decode cL_law 431 = .ok (.aload_n 0, 1) := by decide +kernel
theorem dL_law_432 : decode cL_law 432 = .ok (.iload 4, 2) := by decide +kernel
theorem dL_law_434 : decode cL_law 434 = .ok (.iconst 2, 1) := by decide +kernel
theorem dL_law_435 : decode cL_law 435 = .ok (.iadd, 1) := by decide +kernel
theorem dL_law_436 : decode cL_law 436 = .ok (.iaload, 1) := by decide +kernel
theorem dL_law_437 : decode cL_law 437 = .ok (.invokevirtual 102, 3) := by decide +kernel
theorem dL_law_440 : decode cL_law 440 = .ok (.istore 6, 2) := by decide +kernel
theorem dL_law_442 : decode cL_law 442 = .ok (.aload_n 2, 1) := by decide +kernel
theorem dL_law_443 : decode cL_law 443 = .ok (.invokevirtual 82, 3) := by decide +kernel
theorem dL_law_446 : decode cL_law 446 = .ok (.iload 5, 2) := by decide +kernel
theorem dL_law_448 : decode cL_law 448 = .ok (.if_icmp .eq 5, 3) := by decide +kernel
theorem dL_law_451 : decode cL_law 451 = .ok (.iconst 0, 1) := by decide +kernel
theorem dL_law_452 : decode cL_law 452 = .ok (.ireturn, 1) := by decide +kernel
theorem dL_law_453 : decode cL_law 453 = .ok (.iload 5, 2) := by decide +kernel
theorem dL_law_455 : decode cL_law 455 = .ok (.ifCond .ne 15, 3) := by decide +kernel
theorem dL_law_458 : decode cL_law 458 = .ok (.aload_n 3, 1) := by decide +kernel
theorem dL_law_459 : decode cL_law 459 = .ok (.iconst 0, 1) := by decide +kernel
theorem dL_law_460 : decode cL_law 460 = .ok (.laload, 1) := by decide +kernel
theorem dL_law_461 : decode cL_law 461 = .ok (.iload 6, 2) := by decide +kernel
theorem dL_law_463 : decode cL_law 463 = .ok (.i2l, 1) := by decide +kernel
theorem dL_law_464 : decode cL_law 464 = .ok (.lcmp, 1) := by decide +kernel
theorem dL_law_465 : decode cL_law 465 = .ok (.ifCond .eq 5, 3) := by decide +kernel
theorem dL_law_468 : decode cL_law 468 = .ok (.iconst 0, 1) := by decide +kernel
theorem dL_law_469 : decode cL_law 469 = .ok (.ireturn, 1) := by decide +kernel
theorem dL_law_470 : decode cL_law 470 = .ok (.goto 836, 3) := by decide +kernel
theorem dL_law_473 : decode cL_law 473 = .ok (.aload_n 1, 1) := by decide +kernel
theorem dL_law_474 : decode cL_law 474 = .ok (.aload_n 0, 1) := by decide +kernel
theorem dL_law_475 : decode cL_law 475 = .ok (.iload 4, 2) := by decide +kernel
theorem dL_law_477 : decode cL_law 477 = .ok (.iconst 1, 1) := by decide +kernel
theorem dL_law_478 : decode cL_law 478 = .ok (.iadd, 1) := by decide +kernel
theorem dL_law_479 : decode cL_law 479 = .ok (.iaload, 1) := by decide +kernel
theorem dL_law_480 : decode cL_law 480 = .ok (.aload_n 0, 1) := by decide +kernel
theorem dL_law_481 : decode cL_law 481 = .ok (.iload 4, 2) := by decide +kernel
theorem dL_law_483 : decode cL_law 483 = .ok (.iconst 2, 1) := by decide +kernel
theorem dL_law_484 : decode cL_law 484 = .ok (.iadd, 1) := by decide +kernel
theorem dL_law_485 : decode cL_law 485 = .ok (.iaload, 1) := by decide +kernel
theorem dL_law_486 : decode cL_law 486 = .ok (.aload_n 0, 1) := by decide +kernel
theorem dL_law_487 : decode cL_law 487 = .ok (.iload 4, 2) := by decide +kernel
theorem dL_law_489 : decode cL_law 489 = .ok (.iconst 3, 1) := by decide +kernel
theorem dL_law_490 : decode cL_law 490 = .ok (.iadd, 1) := by decide +kernel
theorem dL_law_491 : decode cL_law 491 = .ok (.iaload, 1) := by decide +kernel
theorem dL_law_492 : decode cL_law 492 = .ok (.aload_n 3, 1) := by decide +kernel
theorem dL_law_493 : decode cL_law 493 = .ok (.invokestatic 103, 3) := by decide +kernel
theorem dL_law_496 : decode cL_law 496 = .ok (.istore 5, 2) := by decide +kernel
theorem dL_law_498 : decode cL_law 498 = .ok (.aload_n 2, 1) := by decide +kernel
theorem dL_law_499 : decode cL_law 499 = .ok (.aload_n 0, 1) := by decide +kernel
theorem dL_law_500 : decode cL_law 500 = .ok (.iload 4, 2) := by decide +kernel
theorem dL_law_502 : decode cL_law 502 = .ok (.iconst 1, 1) := by decide +kernel
theorem dL_law_503 : decode cL_law 503 = .ok (.iadd, 1) := by decide +kernel
theorem dL_law_504 : decode cL_law 504 = .ok (.iaload, 1) := by decide +kernel
theorem dL_law_505 : decode cL_law 505 = .ok (.aload_n 0, 1) := by decide +kernel
theorem dL_law_506 : decode cL_law 506 = .ok (.iload 4, 2) := by decide +kernel
theorem dL_law_508 : decode cL_law 508 = .ok (.iconst 2, 1) := by decide +kernel
theorem dL_law_509 : decode cL_law 509 = .ok (.iadd, 1) := by decide +kernel
theorem dL_law_510 : decode cL_law 510 = .ok (.iaload, 1) := by decide +kernel
theorem dL_law_511 : decode cL_law 511 = .ok (.aload_n 0, 1) := by decide +kernel
theorem dL_law_512 : decode cL_law 512 = .ok (.iload 4, 2) := by decide +kernel
theorem dL_law_514 : decode cL_law 514 = .ok (.iconst 3, 1) := by decide +kernel
theorem dL_law_515 : decode cL_law 515 = .ok (.iadd, 1) := by decide +kernel
theorem dL_law_516 : decode cL_law 516 = .ok (.iaload, 1) := by decide +kernel
theorem dL_law_517 : decode cL_law 517 = .ok (.invokevirtual 106, 3) := by decide +kernel
theorem dL_law_520 : decode cL_law 520 = .ok (.istore 6, 2) := by decide +kernel
theorem dL_law_522 : decode cL_law 522 = .ok (.aload_n 2, 1) := by decide +kernel
theorem dL_law_523 : decode cL_law 523 = .ok (.invokevirtual 82, 3) := by decide +kernel
theorem dL_law_526 : decode cL_law 526 = .ok (.iload 5, 2) := by decide +kernel
theorem dL_law_528 : decode cL_law 528 = .ok (.if_icmp .eq 5, 3) := by decide +kernel
theorem dL_law_531 : decode cL_law 531 = .ok (.iconst 0, 1) := by decide +kernel
theorem dL_law_532 : decode cL_law 532 = .ok (.ireturn, 1) := by decide +kernel
theorem dL_law_533 : decode cL_law 533 = .ok (.iload 5, 2) := by decide +kernel
theorem dL_law_535 : decode cL_law 535 = .ok (.ifCond .ne 15, 3) := by decide +kernel
theorem dL_law_538 : decode cL_law 538 = .ok (.aload_n 3, 1) := by decide +kernel
theorem dL_law_539 : decode cL_law 539 = .ok (.iconst 0, 1) := by decide +kernel
theorem dL_law_540 : decode cL_law 540 = .ok (.laload, 1) := by decide +kernel
theorem dL_law_541 : decode cL_law 541 = .ok (.iload 6, 2) := by decide +kernel
theorem dL_law_543 : decode cL_law 543 = .ok (.i2l, 1) := by decide +kernel
theorem dL_law_544 : decode cL_law 544 = .ok (.lcmp, 1) := by decide +kernel
theorem dL_law_545 : decode cL_law 545 = .ok (.ifCond .eq 5, 3) := by decide +kernel
theorem dL_law_548 : decode cL_law 548 = .ok (.iconst 0, 1) := by decide +kernel
theorem dL_law_549 : decode cL_law 549 = .ok (.ireturn, 1) := by decide +kernel
theorem dL_law_550 : decode cL_law 550 = .ok (.goto 756, 3) := by decide +kernel
theorem dL_law_553 : decode cL_law 553 = .ok (.aload_n 1, 1) := by decide +kernel
theorem dL_law_554 : decode cL_law 554 = .ok (.aload_n 0, 1) := by decide +kernel
theorem dL_law_555 : decode cL_law 555 = .ok (.iload 4, 2) := by decide +kernel
theorem dL_law_557 : decode cL_law 557 = .ok (.iconst 1, 1) := by decide +kernel
theorem dL_law_558 : decode cL_law 558 = .ok (.iadd, 1) := by decide +kernel
theorem dL_law_559 : decode cL_law 559 = .ok (.iaload, 1) := by decide +kernel
theorem dL_law_560 : decode cL_law 560 = .ok (.aload_n 0, 1) := by decide +kernel
theorem dL_law_561 : decode cL_law 561 = .ok (.iload 4, 2) := by decide +kernel
theorem dL_law_563 : decode cL_law 563 = .ok (.iconst 2, 1) := by decide +kernel
theorem dL_law_564 : decode cL_law 564 = .ok (.iadd, 1) := by decide +kernel
theorem dL_law_565 : decode cL_law 565 = .ok (.iaload, 1) := by decide +kernel
theorem dL_law_566 : decode cL_law 566 = .ok (.aload_n 3, 1) := by decide +kernel
theorem dL_law_567 : decode cL_law 567 = .ok (.invokestatic 107, 3) := by decide +kernel
theorem dL_law_570 : decode cL_law 570 = .ok (.istore 5, 2) := by decide +kernel
theorem dL_law_572 : decode cL_law 572 = .ok (.aload_n 2, 1) := by decide +kernel
theorem dL_law_573 : decode cL_law 573 = .ok (.aload_n 0, 1) := by decide +kernel
theorem dL_law_574 : decode cL_law 574 = .ok (.iload 4, 2) := by decide +kernel
theorem dL_law_576 : decode cL_law 576 = .ok (.iconst 1, 1) := by decide +kernel
theorem dL_law_577 : decode cL_law 577 = .ok (.iadd, 1) := by decide +kernel
theorem dL_law_578 : decode cL_law 578 = .ok (.iaload, 1) := by decide +kernel
theorem dL_law_579 : decode cL_law 579 = .ok (.aload_n 0, 1) := by decide +kernel
theorem dL_law_580 : decode cL_law 580 = .ok (.iload 4, 2) := by decide +kernel
theorem dL_law_582 : decode cL_law 582 = .ok (.iconst 2, 1) := by decide +kernel
theorem dL_law_583 : decode cL_law 583 = .ok (.iadd, 1) := by decide +kernel
theorem dL_law_584 : decode cL_law 584 = .ok (.iaload, 1) := by decide +kernel
theorem dL_law_585 : decode cL_law 585 = .ok (.invokevirtual 109, 3) := by decide +kernel
theorem dL_law_588 : decode cL_law 588 = .ok (.istore 6, 2) := by decide +kernel
theorem dL_law_590 : decode cL_law 590 = .ok (.aload_n 2, 1) := by decide +kernel
theorem dL_law_591 : decode cL_law 591 = .ok (.invokevirtual 82, 3) := by decide +kernel
theorem dL_law_594 : decode cL_law 594 = .ok (.iload 5, 2) := by decide +kernel
theorem dL_law_596 : decode cL_law 596 = .ok (.if_icmp .eq 5, 3) := by decide +kernel
theorem dL_law_599 : decode cL_law 599 = .ok (.iconst 0, 1) := by decide +kernel
theorem dL_law_600 : decode cL_law 600 = .ok (.ireturn, 1) := by decide +kernel
theorem dL_law_601 : decode cL_law 601 = .ok (.iload 5, 2) := by decide +kernel
theorem dL_law_603 : decode cL_law 603 = .ok (.ifCond .ne 15, 3) := by decide +kernel
theorem dL_law_606 : decode cL_law 606 = .ok (.aload_n 3, 1) := by decide +kernel
theorem dL_law_607 : decode cL_law 607 = .ok (.iconst 0, 1) := by decide +kernel
theorem dL_law_608 : decode cL_law 608 = .ok (.laload, 1) := by decide +kernel
theorem dL_law_609 : decode cL_law 609 = .ok (.iload 6, 2) := by decide +kernel
theorem dL_law_611 : decode cL_law 611 = .ok (.i2l, 1) := by decide +kernel
theorem dL_law_612 : decode cL_law 612 = .ok (.lcmp, 1) := by decide +kernel
theorem dL_law_613 : decode cL_law 613 = .ok (.ifCond .eq 5, 3) := by decide +kernel
theorem dL_law_616 : decode cL_law 616 = .ok (.iconst 0, 1) := by decide +kernel
theorem dL_law_617 : decode cL_law 617 = .ok (.ireturn, 1) := by decide +kernel
theorem dL_law_618 : decode cL_law 618 = .ok (.goto 688, 3) := by decide +kernel
theorem dL_law_621 : decode cL_law 621 = .ok (.aload_n 1, 1) := by decide +kernel
theorem dL_law_622 : decode cL_law 622 = .ok (.aload_n 0, 1) := by decide +kernel
theorem dL_law_623 : decode cL_law 623 = .ok (.iload 4, 2) := by decide +kernel
theorem dL_law_625 : decode cL_law 625 = .ok (.iconst 1, 1) := by decide +kernel
theorem dL_law_626 : decode cL_law 626 = .ok (.iadd, 1) := by decide +kernel
theorem dL_law_627 : decode cL_law 627 = .ok (.iaload, 1) := by decide +kernel
theorem dL_law_628 : decode cL_law 628 = .ok (.aload_n 0, 1) := by decide +kernel
theorem dL_law_629 : decode cL_law 629 = .ok (.iload 4, 2) := by decide +kernel
theorem dL_law_631 : decode cL_law 631 = .ok (.iconst 2, 1) := by decide +kernel
theorem dL_law_632 : decode cL_law 632 = .ok (.iadd, 1) := by decide +kernel
theorem dL_law_633 : decode cL_law 633 = .ok (.iaload, 1) := by decide +kernel
theorem dL_law_634 : decode cL_law 634 = .ok (.aload_n 0, 1) := by decide +kernel
theorem dL_law_635 : decode cL_law 635 = .ok (.iload 4, 2) := by decide +kernel
theorem dL_law_637 : decode cL_law 637 = .ok (.iconst 3, 1) := by decide +kernel
theorem dL_law_638 : decode cL_law 638 = .ok (.iadd, 1) := by decide +kernel
theorem dL_law_639 : decode cL_law 639 = .ok (.iaload, 1) := by decide +kernel
theorem dL_law_640 : decode cL_law 640 = .ok (.aload_n 3, 1) := by decide +kernel
theorem dL_law_641 : decode cL_law 641 = .ok (.invokestatic 110, 3) := by decide +kernel
theorem dL_law_644 : decode cL_law 644 = .ok (.istore 5, 2) := by decide +kernel
theorem dL_law_646 : decode cL_law 646 = .ok (.aload_n 2, 1) := by decide +kernel
theorem dL_law_647 : decode cL_law 647 = .ok (.aload_n 0, 1) := by decide +kernel
theorem dL_law_648 : decode cL_law 648 = .ok (.iload 4, 2) := by decide +kernel
theorem dL_law_650 : decode cL_law 650 = .ok (.iconst 1, 1) := by decide +kernel
theorem dL_law_651 : decode cL_law 651 = .ok (.iadd, 1) := by decide +kernel
theorem dL_law_652 : decode cL_law 652 = .ok (.iaload, 1) := by decide +kernel
theorem dL_law_653 : decode cL_law 653 = .ok (.aload_n 0, 1) := by decide +kernel
theorem dL_law_654 : decode cL_law 654 = .ok (.iload 4, 2) := by decide +kernel
theorem dL_law_656 : decode cL_law 656 = .ok (.iconst 2, 1) := by decide +kernel
theorem dL_law_657 : decode cL_law 657 = .ok (.iadd, 1) := by decide +kernel
theorem dL_law_658 : decode cL_law 658 = .ok (.iaload, 1) := by decide +kernel
theorem dL_law_659 : decode cL_law 659 = .ok (.aload_n 0, 1) := by decide +kernel
theorem dL_law_660 : decode cL_law 660 = .ok (.iload 4, 2) := by decide +kernel
theorem dL_law_662 : decode cL_law 662 = .ok (.iconst 3, 1) := by decide +kernel
theorem dL_law_663 : decode cL_law 663 = .ok (.iadd, 1) := by decide +kernel
theorem dL_law_664 : decode cL_law 664 = .ok (.iaload, 1) := by decide +kernel
theorem dL_law_665 : decode cL_law 665 = .ok (.invokevirtual 112, 3) := by decide +kernel
theorem dL_law_668 : decode cL_law 668 = .ok (.istore 6, 2) := by decide +kernel
theorem dL_law_670 : decode cL_law 670 = .ok (.aload_n 2, 1) := by decide +kernel
theorem dL_law_671 : decode cL_law 671 = .ok (.invokevirtual 82, 3) := by decide +kernel
theorem dL_law_674 : decode cL_law 674 = .ok (.iload 5, 2) := by decide +kernel
theorem dL_law_676 : decode cL_law 676 = .ok (.if_icmp .eq 5, 3) := by decide +kernel
theorem dL_law_679 : decode cL_law 679 = .ok (.iconst 0, 1) := by decide +kernel
theorem dL_law_680 : decode cL_law 680 = .ok (.ireturn, 1) := by decide +kernel
theorem dL_law_681 : decode cL_law 681 = .ok (.iload 5, 2) := by decide +kernel
theorem dL_law_683 : decode cL_law 683 = .ok (.ifCond .ne 15, 3) := by decide +kernel
theorem dL_law_686 : decode cL_law 686 = .ok (.aload_n 3, 1) := by decide +kernel
theorem dL_law_687 : decode cL_law 687 = .ok (.iconst 0, 1) := by decide +kernel
theorem dL_law_688 : decode cL_law 688 = .ok (.laload, 1) := by decide +kernel
theorem dL_law_689 : decode cL_law 689 = .ok (.iload 6, 2) := by decide +kernel
theorem dL_law_691 : decode cL_law 691 = .ok (.i2l, 1) := by decide +kernel
theorem dL_law_692 : decode cL_law 692 = .ok (.lcmp, 1) := by decide +kernel
theorem dL_law_693 : decode cL_law 693 = .ok (.ifCond .eq 5, 3) := by decide +kernel
theorem dL_law_696 : decode cL_law 696 = .ok (.iconst 0, 1) := by decide +kernel
theorem dL_law_697 : decode cL_law 697 = .ok (.ireturn, 1) := by decide +kernel
theorem dL_law_698 : decode cL_law 698 = .ok (.goto 608, 3) := by decide +kernel
theorem dL_law_701 : decode cL_law 701 = .ok (.aload_n 1, 1) := by decide +kernel
theorem dL_law_702 : decode cL_law 702 = .ok (.aload_n 0, 1) := by decide +kernel
theorem dL_law_703 : decode cL_law 703 = .ok (.iload 4, 2) := by decide +kernel
theorem dL_law_705 : decode cL_law 705 = .ok (.iconst 1, 1) := by decide +kernel
theorem dL_law_706 : decode cL_law 706 = .ok (.iadd, 1) := by decide +kernel
theorem dL_law_707 : decode cL_law 707 = .ok (.iaload, 1) := by decide +kernel
theorem dL_law_708 : decode cL_law 708 = .ok (.aload_n 0, 1) := by decide +kernel
theorem dL_law_709 : decode cL_law 709 = .ok (.iload 4, 2) := by decide +kernel
theorem dL_law_711 : decode cL_law 711 = .ok (.iconst 2, 1) := by decide +kernel
theorem dL_law_712 : decode cL_law 712 = .ok (.iadd, 1) := by decide +kernel
theorem dL_law_713 : decode cL_law 713 = .ok (.iaload, 1) := by decide +kernel
theorem dL_law_714 : decode cL_law 714 = .ok (.aload_n 3, 1) := by decide +kernel
theorem dL_law_715 : decode cL_law 715 = .ok (.invokestatic 113, 3) := by decide +kernel
theorem dL_law_718 : decode cL_law 718 = .ok (.istore 5, 2) := by decide +kernel
theorem dL_law_720 : decode cL_law 720 = .ok (.aload_n 2, 1) := by decide +kernel
theorem dL_law_721 : decode cL_law 721 = .ok (.aload_n 0, 1) := by decide +kernel
theorem dL_law_722 : decode cL_law 722 = .ok (.iload 4, 2) := by decide +kernel
theorem dL_law_724 : decode cL_law 724 = .ok (.iconst 1, 1) := by decide +kernel
theorem dL_law_725 : decode cL_law 725 = .ok (.iadd, 1) := by decide +kernel
theorem dL_law_726 : decode cL_law 726 = .ok (.iaload, 1) := by decide +kernel
theorem dL_law_727 : decode cL_law 727 = .ok (.aload_n 0, 1) := by decide +kernel
theorem dL_law_728 : decode cL_law 728 = .ok (.iload 4, 2) := by decide +kernel
theorem dL_law_730 : decode cL_law 730 = .ok (.iconst 2, 1) := by decide +kernel
theorem dL_law_731 : decode cL_law 731 = .ok (.iadd, 1) := by decide +kernel
theorem dL_law_732 : decode cL_law 732 = .ok (.iaload, 1) := by decide +kernel
theorem dL_law_733 : decode cL_law 733 = .ok (.invokevirtual 115, 3) := by decide +kernel
theorem dL_law_736 : decode cL_law 736 = .ok (.istore 6, 2) := by decide +kernel
theorem dL_law_738 : decode cL_law 738 = .ok (.aload_n 2, 1) := by decide +kernel
theorem dL_law_739 : decode cL_law 739 = .ok (.invokevirtual 82, 3) := by decide +kernel
theorem dL_law_742 : decode cL_law 742 = .ok (.iload 5, 2) := by decide +kernel
theorem dL_law_744 : decode cL_law 744 = .ok (.if_icmp .eq 5, 3) := by decide +kernel
theorem dL_law_747 : decode cL_law 747 = .ok (.iconst 0, 1) := by decide +kernel
theorem dL_law_748 : decode cL_law 748 = .ok (.ireturn, 1) := by decide +kernel
theorem dL_law_749 : decode cL_law 749 = .ok (.iload 5, 2) := by decide +kernel
theorem dL_law_751 : decode cL_law 751 = .ok (.ifCond .ne 15, 3) := by decide +kernel
theorem dL_law_754 : decode cL_law 754 = .ok (.aload_n 3, 1) := by decide +kernel
theorem dL_law_755 : decode cL_law 755 = .ok (.iconst 0, 1) := by decide +kernel
theorem dL_law_756 : decode cL_law 756 = .ok (.laload, 1) := by decide +kernel
theorem dL_law_757 : decode cL_law 757 = .ok (.iload 6, 2) := by decide +kernel
theorem dL_law_759 : decode cL_law 759 = .ok (.i2l, 1) := by decide +kernel
theorem dL_law_760 : decode cL_law 760 = .ok (.lcmp, 1) := by decide +kernel
theorem dL_law_761 : decode cL_law 761 = .ok (.ifCond .eq 5, 3) := by decide +kernel
theorem dL_law_764 : decode cL_law 764 = .ok (.iconst 0, 1) := by decide +kernel
theorem dL_law_765 : decode cL_law 765 = .ok (.ireturn, 1) := by decide +kernel
theorem dL_law_766 : decode cL_law 766 = .ok (.goto 540, 3) := by decide +kernel
theorem dL_law_769 : decode cL_law 769 = .ok (.aload_n 1, 1) := by decide +kernel
theorem dL_law_770 : decode cL_law 770 = .ok (.aload_n 0, 1) := by decide +kernel
theorem dL_law_771 : decode cL_law 771 = .ok (.iload 4, 2) := by decide +kernel
theorem dL_law_773 : decode cL_law 773 = .ok (.iconst 1, 1) := by decide +kernel
theorem dL_law_774 : decode cL_law 774 = .ok (.iadd, 1) := by decide +kernel
theorem dL_law_775 : decode cL_law 775 = .ok (.iaload, 1) := by decide +kernel
theorem dL_law_776 : decode cL_law 776 = .ok (.aload_n 3, 1) := by decide +kernel
theorem dL_law_777 : decode cL_law 777 = .ok (.invokestatic 116, 3) := by decide +kernel
theorem dL_law_780 : decode cL_law 780 = .ok (.istore 5, 2) := by decide +kernel
theorem dL_law_782 : decode cL_law 782 = .ok (.aload_n 2, 1) := by decide +kernel
theorem dL_law_783 : decode cL_law 783 = .ok (.aload_n 0, 1) := by decide +kernel
theorem dL_law_784 : decode cL_law 784 = .ok (.iload 4, 2) := by decide +kernel
theorem dL_law_786 : decode cL_law 786 = .ok (.iconst 1, 1) := by decide +kernel
theorem dL_law_787 : decode cL_law 787 = .ok (.iadd, 1) := by decide +kernel
theorem dL_law_788 : decode cL_law 788 = .ok (.iaload, 1) := by decide +kernel
theorem dL_law_789 : decode cL_law 789 = .ok (.invokevirtual 118, 3) := by decide +kernel
theorem dL_law_792 : decode cL_law 792 = .ok (.istore 6, 2) := by decide +kernel
theorem dL_law_794 : decode cL_law 794 = .ok (.aload_n 2, 1) := by decide +kernel
theorem dL_law_795 : decode cL_law 795 = .ok (.invokevirtual 82, 3) := by decide +kernel
theorem dL_law_798 : decode cL_law 798 = .ok (.iload 5, 2) := by decide +kernel
theorem dL_law_800 : decode cL_law 800 = .ok (.if_icmp .eq 5, 3) := by decide +kernel
theorem dL_law_803 : decode cL_law 803 = .ok (.iconst 0, 1) := by decide +kernel
theorem dL_law_804 : decode cL_law 804 = .ok (.ireturn, 1) := by decide +kernel
theorem dL_law_805 : decode cL_law 805 = .ok (.iload 5, 2) := by decide +kernel
theorem dL_law_807 : decode cL_law 807 = .ok (.ifCond .ne 15, 3) := by decide +kernel
theorem dL_law_810 : decode cL_law 810 = .ok (.aload_n 3, 1) := by decide +kernel
theorem dL_law_811 : decode cL_law 811 = .ok (.iconst 0, 1) := by decide +kernel
theorem dL_law_812 : decode cL_law 812 = .ok (.laload, 1) := by decide +kernel
theorem dL_law_813 : decode cL_law 813 = .ok (.iload 6, 2) := by decide +kernel
theorem dL_law_815 : decode cL_law 815 = .ok (.i2l, 1) := by decide +kernel
theorem dL_law_816 : decode cL_law 816 = .ok (.lcmp, 1) := by decide +kernel
theorem dL_law_817 : decode cL_law 817 = .ok (.ifCond .eq 5, 3) := by decide +kernel
theorem dL_law_820 : decode cL_law 820 = .ok (.iconst 0, 1) := by decide +kernel
theorem dL_law_821 : decode cL_law 821 = .ok (.ireturn, 1) := by decide +kernel
theorem dL_law_822 : decode cL_law 822 = .ok (.goto 484, 3) := by decide +kernel
theorem dL_law_825 : decode cL_law 825 = .ok (.aload_n 1, 1) := by decide +kernel
theorem dL_law_826 : decode cL_law 826 = .ok (.invokevirtual 119, 3) := by decide +kernel
theorem dL_law_829 : decode cL_law 829 = .ok (.aload_n 2, 1) := by decide +kernel
theorem dL_law_830 : decode cL_law 830 = .ok (.invokevirtual 122, 3) := by decide +kernel
theorem dL_law_833 : decode cL_law 833 = .ok (.if_icmp .eq 473, 3) := by decide +kernel
theorem dL_law_836 : decode cL_law 836 = .ok (.iconst 0, 1) := by decide +kernel
theorem dL_law_837 : decode cL_law 837 = .ok (.ireturn, 1) := by decide +kernel
theorem dL_law_838 : decode cL_law 838 = .ok (.aload_n 1, 1) := by decide +kernel
theorem dL_law_839 : decode cL_law 839 = .ok (.aload_n 0, 1) := by decide +kernel
theorem dL_law_840 : decode cL_law 840 = .ok (.iload 4, 2) := by decide +kernel
theorem dL_law_842 : decode cL_law 842 = .ok (.iconst 1, 1) := by decide +kernel
theorem dL_law_843 : decode cL_law 843 = .ok (.iadd, 1) := by decide +kernel
theorem dL_law_844 : decode cL_law 844 = .ok (.iaload, 1) := by decide +kernel
theorem dL_law_845 : decode cL_law 845 = .ok (.aload_n 3, 1) := by decide +kernel
theorem dL_law_846 : decode cL_law 846 = .ok (.invokestatic 123, 3) := by decide +kernel
theorem dL_law_849 : decode cL_law 849 = .ok (.istore 5, 2) := by decide +kernel
theorem dL_law_851 : decode cL_law 851 = .ok (.aload_n 2, 1) := by decide +kernel
theorem dL_law_852 : decode cL_law 852 = .ok (.aload_n 0, 1) := by decide +kernel
theorem dL_law_853 : decode cL_law 853 = .ok (.iload 4, 2) := by decide +kernel
theorem dL_law_855 : decode cL_law 855 = .ok (.iconst 1, 1) := by decide +kernel
theorem dL_law_856 : decode cL_law 856 = .ok (.iadd, 1) := by decide +kernel
theorem dL_law_857 : decode cL_law 857 = .ok (.iaload, 1) := by decide +kernel
theorem dL_law_858 : decode cL_law 858 = .ok (.invokevirtual 125, 3) := by decide +kernel
theorem dL_law_861 : decode cL_law 861 = .ok (.istore 6, 2) := by decide +kernel
theorem dL_law_863 : decode cL_law 863 = .ok (.aload_n 2, 1) := by decide +kernel
theorem dL_law_864 : decode cL_law 864 = .ok (.invokevirtual 82, 3) := by decide +kernel
theorem dL_law_867 : decode cL_law 867 = .ok (.iload 5, 2) := by decide +kernel
theorem dL_law_869 : decode cL_law 869 = .ok (.if_icmp .eq 5, 3) := by decide +kernel
theorem dL_law_872 : decode cL_law 872 = .ok (.iconst 0, 1) := by decide +kernel
theorem dL_law_873 : decode cL_law 873 = .ok (.ireturn, 1) := by decide +kernel
theorem dL_law_874 : decode cL_law 874 = .ok (.iload 5, 2) := by decide +kernel
theorem dL_law_876 : decode cL_law 876 = .ok (.ifCond .ne 15, 3) := by decide +kernel
theorem dL_law_879 : decode cL_law 879 = .ok (.aload_n 3, 1) := by decide +kernel
theorem dL_law_880 : decode cL_law 880 = .ok (.iconst 0, 1) := by decide +kernel
theorem dL_law_881 : decode cL_law 881 = .ok (.laload, 1) := by decide +kernel
theorem dL_law_882 : decode cL_law 882 = .ok (.iload 6, 2) := by decide +kernel
theorem dL_law_884 : decode cL_law 884 = .ok (.i2l, 1) := by decide +kernel
theorem dL_law_885 : decode cL_law 885 = .ok (.lcmp, 1) := by decide +kernel
theorem dL_law_886 : decode cL_law 886 = .ok (.ifCond .eq 5, 3) := by decide +kernel
theorem dL_law_889 : decode cL_law 889 = .ok (.iconst 0, 1) := by decide +kernel
theorem dL_law_890 : decode cL_law 890 = .ok (.ireturn, 1) := by decide +kernel
theorem dL_law_891 : decode cL_law 891 = .ok (.goto 415, 3) := by decide +kernel
theorem dL_law_894 : decode cL_law 894 = .ok (.aload_n 1, 1) := by decide +kernel
theorem dL_law_895 : decode cL_law 895 = .ok (.aload_n 0, 1) := by decide +kernel
theorem dL_law_896 : decode cL_law 896 = .ok (.iload 4, 2) := by decide +kernel
theorem dL_law_898 : decode cL_law 898 = .ok (.iconst 1, 1) := by decide +kernel
theorem dL_law_899 : decode cL_law 899 = .ok (.iadd, 1) := by decide +kernel
theorem dL_law_900 : decode cL_law 900 = .ok (.iaload, 1) := by decide +kernel
theorem dL_law_901 : decode cL_law 901 = .ok (.aload_n 0, 1) := by decide +kernel
theorem dL_law_902 : decode cL_law 902 = .ok (.iload 4, 2) := by decide +kernel
theorem dL_law_904 : decode cL_law 904 = .ok (.iconst 2, 1) := by decide +kernel
theorem dL_law_905 : decode cL_law 905 = .ok (.iadd, 1) := by decide +kernel
theorem dL_law_906 : decode cL_law 906 = .ok (.iaload, 1) := by decide +kernel
theorem dL_law_907 : decode cL_law 907 = .ok (.aload_n 3, 1) := by decide +kernel
theorem dL_law_908 : decode cL_law 908 = .ok (.invokestatic 126, 3) := by decide +kernel
theorem dL_law_911 : decode cL_law 911 = .ok (.istore 5, 2) := by decide +kernel
theorem dL_law_913 : decode cL_law 913 = .ok (.aload_n 2, 1) := by decide +kernel
theorem dL_law_914 : decode cL_law 914 = .ok (.aload_n 0, 1) := by decide +kernel
theorem dL_law_915 : decode cL_law 915 = .ok (.iload 4, 2) := by decide +kernel
theorem dL_law_917 : decode cL_law 917 = .ok (.iconst 1, 1) := by decide +kernel
theorem dL_law_918 : decode cL_law 918 = .ok (.iadd, 1) := by decide +kernel
theorem dL_law_919 : decode cL_law 919 = .ok (.iaload, 1) := by decide +kernel
theorem dL_law_920 : decode cL_law 920 = .ok (.aload_n 0, 1) := by decide +kernel
theorem dL_law_921 : decode cL_law 921 = .ok (.iload 4, 2) := by decide +kernel
theorem dL_law_923 : decode cL_law 923 = .ok (.iconst 2, 1) := by decide +kernel
theorem dL_law_924 : decode cL_law 924 = .ok (.iadd, 1) := by decide +kernel
theorem dL_law_925 : decode cL_law 925 = .ok (.iaload, 1) := by decide +kernel
theorem dL_law_926 : decode cL_law 926 = .ok (.invokevirtual 128, 3) := by decide +kernel
theorem dL_law_929 : decode cL_law 929 = .ok (.istore 6, 2) := by decide +kernel
theorem dL_law_931 : decode cL_law 931 = .ok (.aload_n 2, 1) := by decide +kernel
theorem dL_law_932 : decode cL_law 932 = .ok (.invokevirtual 82, 3) := by decide +kernel
theorem dL_law_935 : decode cL_law 935 = .ok (.iload 5, 2) := by decide +kernel
theorem dL_law_937 : decode cL_law 937 = .ok (.if_icmp .eq 5, 3) := by decide +kernel
theorem dL_law_940 : decode cL_law 940 = .ok (.iconst 0, 1) := by decide +kernel
theorem dL_law_941 : decode cL_law 941 = .ok (.ireturn, 1) := by decide +kernel
theorem dL_law_942 : decode cL_law 942 = .ok (.iload 5, 2) := by decide +kernel
theorem dL_law_944 : decode cL_law 944 = .ok (.ifCond .ne 15, 3) := by decide +kernel
theorem dL_law_947 : decode cL_law 947 = .ok (.aload_n 3, 1) := by decide +kernel
theorem dL_law_948 : decode cL_law 948 = .ok (.iconst 0, 1) := by decide +kernel
theorem dL_law_949 : decode cL_law 949 = .ok (.laload, 1) := by decide +kernel
theorem dL_law_950 : decode cL_law 950 = .ok (.iload 6, 2) := by decide +kernel
theorem dL_law_952 : decode cL_law 952 = .ok (.i2l, 1) := by decide +kernel
theorem dL_law_953 : decode cL_law 953 = .ok (.lcmp, 1) := by decide +kernel
theorem dL_law_954 : decode cL_law 954 = .ok (.ifCond .eq 5, 3) := by decide +kernel
theorem dL_law_957 : decode cL_law 957 = .ok (.iconst 0, 1) := by decide +kernel
theorem dL_law_958 : decode cL_law 958 = .ok (.ireturn, 1) := by decide +kernel
theorem dL_law_959 : decode cL_law 959 = .ok (.goto 347, 3) := by decide +kernel
theorem dL_law_962 : decode cL_law 962 = .ok (.aload_n 1, 1) := by decide +kernel
theorem dL_law_963 : decode cL_law 963 = .ok (.aload_n 0, 1) := by decide +kernel
theorem dL_law_964 : decode cL_law 964 = .ok (.iload 4, 2) := by decide +kernel
theorem dL_law_966 : decode cL_law 966 = .ok (.iconst 1, 1) := by decide +kernel
theorem dL_law_967 : decode cL_law 967 = .ok (.iadd, 1) := by decide +kernel
theorem dL_law_968 : decode cL_law 968 = .ok (.iaload, 1) := by decide +kernel
theorem dL_law_969 : decode cL_law 969 = .ok (.aload_n 0, 1) := by decide +kernel
theorem dL_law_970 : decode cL_law 970 = .ok (.iload 4, 2) := by decide +kernel
theorem dL_law_972 : decode cL_law 972 = .ok (.iconst 2, 1) := by decide +kernel
theorem dL_law_973 : decode cL_law 973 = .ok (.iadd, 1) := by decide +kernel
theorem dL_law_974 : decode cL_law 974 = .ok (.iaload, 1) := by decide +kernel
theorem dL_law_975 : decode cL_law 975 = .ok (.aload_n 3, 1) := by decide +kernel
theorem dL_law_976 : decode cL_law 976 = .ok (.invokestatic 129, 3) := by decide +kernel
theorem dL_law_979 : decode cL_law 979 = .ok (.istore 5, 2) := by decide +kernel
theorem dL_law_981 : decode cL_law 981 = .ok (.aload_n 2, 1) := by decide +kernel
theorem dL_law_982 : decode cL_law 982 = .ok (.aload_n 0, 1) := by decide +kernel
theorem dL_law_983 : decode cL_law 983 = .ok (.iload 4, 2) := by decide +kernel
theorem dL_law_985 : decode cL_law 985 = .ok (.iconst 1, 1) := by decide +kernel
theorem dL_law_986 : decode cL_law 986 = .ok (.iadd, 1) := by decide +kernel
theorem dL_law_987 : decode cL_law 987 = .ok (.iaload, 1) := by decide +kernel
theorem dL_law_988 : decode cL_law 988 = .ok (.aload_n 0, 1) := by decide +kernel
theorem dL_law_989 : decode cL_law 989 = .ok (.iload 4, 2) := by decide +kernel
theorem dL_law_991 : decode cL_law 991 = .ok (.iconst 2, 1) := by decide +kernel
theorem dL_law_992 : decode cL_law 992 = .ok (.iadd, 1) := by decide +kernel
theorem dL_law_993 : decode cL_law 993 = .ok (.iaload, 1) := by decide +kernel
theorem dL_law_994 : decode cL_law 994 = .ok (.invokevirtual 131, 3) := by decide +kernel
theorem dL_law_997 : decode cL_law 997 = .ok (.istore 6, 2) := by decide +kernel
theorem dL_law_999 : decode cL_law 999 = .ok (.aload_n 2, 1) := by decide +kernel
theorem dL_law_1000 : decode cL_law 1000 = .ok (.invokevirtual 82, 3) := by decide +kernel
theorem dL_law_1003 : decode cL_law 1003 = .ok (.iload 5, 2) := by decide +kernel
theorem dL_law_1005 : decode cL_law 1005 = .ok (.if_icmp .eq 5, 3) := by decide +kernel
theorem dL_law_1008 : decode cL_law 1008 = .ok (.iconst 0, 1) := by decide +kernel
theorem dL_law_1009 : decode cL_law 1009 = .ok (.ireturn, 1) := by decide +kernel
theorem dL_law_1010 : decode cL_law 1010 = .ok (.iload 5, 2) := by decide +kernel
theorem dL_law_1012 : decode cL_law 1012 = .ok (.ifCond .ne 15, 3) := by decide +kernel
theorem dL_law_1015 : decode cL_law 1015 = .ok (.aload_n 3, 1) := by decide +kernel
theorem dL_law_1016 : decode cL_law 1016 = .ok (.iconst 0, 1) := by decide +kernel
theorem dL_law_1017 : decode cL_law 1017 = .ok (.laload, 1) := by decide +kernel
theorem dL_law_1018 : decode cL_law 1018 = .ok (.iload 6, 2) := by decide +kernel
theorem dL_law_1020 : decode cL_law 1020 = .ok (.i2l, 1) := by decide +kernel
theorem dL_law_1021 : decode cL_law 1021 = .ok (.lcmp, 1) := by decide +kernel
theorem dL_law_1022 : decode cL_law 1022 = .ok (.ifCond .eq 5, 3) := by decide +kernel
theorem dL_law_1025 : decode cL_law 1025 = .ok (.iconst 0, 1) := by decide +kernel
theorem dL_law_1026 : decode cL_law 1026 = .ok (.ireturn, 1) := by decide +kernel
theorem dL_law_1027 : decode cL_law 1027 = .ok (.goto 279, 3) := by decide +kernel
theorem dL_law_1030 : decode cL_law 1030 = .ok (.aload_n 1, 1) := by decide +kernel
theorem dL_law_1031 : decode cL_law 1031 = .ok (.aload_n 0, 1) := by decide +kernel
theorem dL_law_1032 : decode cL_law 1032 = .ok (.iload 4, 2) := by decide +kernel
theorem dL_law_1034 : decode cL_law 1034 = .ok (.iconst 1, 1) := by decide +kernel
theorem dL_law_1035 : decode cL_law 1035 = .ok (.iadd, 1) := by decide +kernel
theorem dL_law_1036 : decode cL_law 1036 = .ok (.iaload, 1) := by decide +kernel
theorem dL_law_1037 : decode cL_law 1037 = .ok (.invokestatic 132, 3) := by decide +kernel
theorem dL_law_1040 : decode cL_law 1040 = .ok (.istore 5, 2) := by decide +kernel
theorem dL_law_1042 : decode cL_law 1042 = .ok (.aload_n 2, 1) := by decide +kernel
theorem dL_law_1043 : decode cL_law 1043 = .ok (.aload_n 0, 1) := by decide +kernel
theorem dL_law_1044 : decode cL_law 1044 = .ok (.iload 4, 2) := by decide +kernel
theorem dL_law_1046 : decode cL_law 1046 = .ok (.iconst 1, 1) := by decide +kernel
theorem dL_law_1047 : decode cL_law 1047 = .ok (.iadd, 1) := by decide +kernel
theorem dL_law_1048 : decode cL_law 1048 = .ok (.iaload, 1) := by decide +kernel
theorem dL_law_1049 : decode cL_law 1049 = .ok (.invokevirtual 135, 3) := by decide +kernel
theorem dL_law_1052 : decode cL_law 1052 = .ok (.aload_n 2, 1) := by decide +kernel
theorem dL_law_1053 : decode cL_law 1053 = .ok (.invokevirtual 82, 3) := by decide +kernel
theorem dL_law_1056 : decode cL_law 1056 = .ok (.iload 5, 2) := by decide +kernel
theorem dL_law_1058 : decode cL_law 1058 = .ok (.if_icmp .eq 5, 3) := by decide +kernel
theorem dL_law_1061 : decode cL_law 1061 = .ok (.iconst 0, 1) := by decide +kernel
theorem dL_law_1062 : decode cL_law 1062 = .ok (.ireturn, 1) := by decide +kernel
theorem dL_law_1063 : decode cL_law 1063 = .ok (.goto 243, 3) := by decide +kernel
theorem dL_law_1066 : decode cL_law 1066 = .ok (.aload_n 1, 1) := by decide +kernel
theorem dL_law_1067 : decode cL_law 1067 = .ok (.invokevirtual 136, 3) := by decide +kernel
theorem dL_law_1070 : decode cL_law 1070 = .ok (.aload_n 2, 1) := by decide +kernel
theorem dL_law_1071 : decode cL_law 1071 = .ok (.invokevirtual 139, 3) := by decide +kernel
theorem dL_law_1074 : decode cL_law 1074 = .ok (.if_icmp .eq 232, 3) := by decide +kernel
theorem dL_law_1077 : decode cL_law 1077 = .ok (.iconst 0, 1) := by decide +kernel
theorem dL_law_1078 : decode cL_law 1078 = .ok (.ireturn, 1) := by decide +kernel
theorem dL_law_1079 : decode cL_law 1079 = .ok (.aload_n 1, 1) := by decide +kernel
theorem dL_law_1080 : decode cL_law 1080 = .ok (.aload_n 0, 1) := by decide +kernel
theorem dL_law_1081 : decode cL_law 1081 = .ok (.iload 4, 2) := by decide +kernel
theorem dL_law_1083 : decode cL_law 1083 = .ok (.iconst 1, 1) := by decide +kernel
theorem dL_law_1084 : decode cL_law 1084 = .ok (.iadd, 1) := by decide +kernel
theorem dL_law_1085 : decode cL_law 1085 = .ok (.iaload, 1) := by decide +kernel
theorem dL_law_1086 : decode cL_law 1086 = .ok (.aload_n 0, 1) := by decide +kernel
theorem dL_law_1087 : decode cL_law 1087 = .ok (.iload 4, 2) := by decide +kernel
theorem dL_law_1089 : decode cL_law 1089 = .ok (.iconst 2, 1) := by decide +kernel
theorem dL_law_1090 : decode cL_law 1090 = .ok (.iadd, 1) := by decide +kernel
theorem dL_law_1091 : decode cL_law 1091 = .ok (.iaload, 1) := by decide +kernel
theorem dL_law_1092 : decode cL_law 1092 = .ok (.ifCond .eq 7, 3) := by decide +kernel
theorem dL_law_1095 : decode cL_law 1095 = .ok (.iconst 1, 1) := by decide +kernel
theorem dL_law_1096 : decode cL_law 1096 = .ok (.goto 4, 3) := by decide +kernel
theorem dL_law_1099 : decode cL_law 1099 = .ok (.iconst 0, 1) := by decide +kernel
theorem dL_law_1100 : decode cL_law 1100 = .ok (.aload_n 0, 1) := by decide +kernel
theorem dL_law_1101 : decode cL_law 1101 = .ok (.iload 4, 2) := by decide +kernel
theorem dL_law_1103 : decode cL_law 1103 = .ok (.iconst 3, 1) := by decide +kernel
theorem dL_law_1104 : decode cL_law 1104 = .ok (.iadd, 1) := by decide +kernel
theorem dL_law_1105 : decode cL_law 1105 = .ok (.iaload, 1) := by decide +kernel
theorem dL_law_1106 : decode cL_law 1106 = .ok (.aload_n 3, 1) := by decide +kernel
theorem dL_law_1107 : decode cL_law 1107 = .ok (.invokestatic 140, 3) := by decide +kernel
theorem dL_law_1110 : decode cL_law 1110 = .ok (.istore 5, 2) := by decide +kernel
theorem dL_law_1112 : decode cL_law 1112 = .ok (.aload_n 2, 1) := by decide +kernel
theorem dL_law_1113 : decode cL_law 1113 = .ok (.aload_n 0, 1) := by decide +kernel
theorem dL_law_1114 : decode cL_law 1114 = .ok (.iload 4, 2) := by decide +kernel
theorem dL_law_1116 : decode cL_law 1116 = .ok (.iconst 1, 1) := by decide +kernel
theorem dL_law_1117 : decode cL_law 1117 = .ok (.iadd, 1) := by decide +kernel
theorem dL_law_1118 : decode cL_law 1118 = .ok (.iaload, 1) := by decide +kernel
theorem dL_law_1119 : decode cL_law 1119 = .ok (.aload_n 0, 1) := by decide +kernel
theorem dL_law_1120 : decode cL_law 1120 = .ok (.iload 4, 2) := by decide +kernel
theorem dL_law_1122 : decode cL_law 1122 = .ok (.iconst 2, 1) := by decide +kernel
theorem dL_law_1123 : decode cL_law 1123 = .ok (.iadd, 1) := by decide +kernel
theorem dL_law_1124 : decode cL_law 1124 = .ok (.iaload, 1) := by decide +kernel
theorem dL_law_1125 : decode cL_law 1125 = .ok (.ifCond .eq 7, 3) := by decide +kernel
theorem dL_law_1128 : decode cL_law 1128 = .ok (.iconst 1, 1) := by decide +kernel
theorem dL_law_1129 : decode cL_law 1129 = .ok (.goto 4, 3) := by decide +kernel
theorem dL_law_1132 : decode cL_law 1132 = .ok (.iconst 0, 1) := by decide +kernel
theorem dL_law_1133 : decode cL_law 1133 = .ok (.aload_n 0, 1) := by decide +kernel
theorem dL_law_1134 : decode cL_law 1134 = .ok (.iload 4, 2) := by decide +kernel
theorem dL_law_1136 : decode cL_law 1136 = .ok (.iconst 3, 1) := by decide +kernel
theorem dL_law_1137 : decode cL_law 1137 = .ok (.iadd, 1) := by decide +kernel
theorem dL_law_1138 : decode cL_law 1138 = .ok (.iaload, 1) := by decide +kernel
theorem dL_law_1139 : decode cL_law 1139 = .ok (.invokevirtual 143, 3) := by decide +kernel
theorem dL_law_1142 : decode cL_law 1142 = .ok (.istore 6, 2) := by decide +kernel
theorem dL_law_1144 : decode cL_law 1144 = .ok (.aload_n 2, 1) := by decide +kernel
theorem dL_law_1145 : decode cL_law 1145 = .ok (.invokevirtual 82, 3) := by decide +kernel
theorem dL_law_1148 : decode cL_law 1148 = .ok (.iload 5, 2) := by decide +kernel
theorem dL_law_1150 : decode cL_law 1150 = .ok (.if_icmp .eq 5, 3) := by decide +kernel
theorem dL_law_1153 : decode cL_law 1153 = .ok (.iconst 0, 1) := by decide +kernel
theorem dL_law_1154 : decode cL_law 1154 = .ok (.ireturn, 1) := by decide +kernel
theorem dL_law_1155 : decode cL_law 1155 = .ok (.iload 5, 2) := by decide +kernel
theorem dL_law_1157 : decode cL_law 1157 = .ok (.ifCond .ne 15, 3) := by decide +kernel
theorem dL_law_1160 : decode cL_law 1160 = .ok (.aload_n 3, 1) := by decide +kernel
theorem dL_law_1161 : decode cL_law 1161 = .ok (.iconst 0, 1) := by decide +kernel
theorem dL_law_1162 : decode cL_law 1162 = .ok (.laload, 1) := by decide +kernel
theorem dL_law_1163 : decode cL_law 1163 = .ok (.iload 6, 2) := by decide +kernel
theorem dL_law_1165 : decode cL_law 1165 = .ok (.i2l, 1) := by decide +kernel
theorem dL_law_1166 : decode cL_law 1166 = .ok (.lcmp, 1) := by decide +kernel
theorem dL_law_1167 : decode cL_law 1167 = .ok (.ifCond .eq 5, 3) := by decide +kernel
theorem dL_law_1170 : decode cL_law 1170 = .ok (.iconst 0, 1) := by decide +kernel
theorem dL_law_1171 : decode cL_law 1171 = .ok (.ireturn, 1) := by decide +kernel
theorem dL_law_1172 : decode cL_law 1172 = .ok (.goto 134, 3) := by decide +kernel
theorem dL_law_1175 : decode cL_law 1175 = .ok (.aload_n 1, 1) := by decide +kernel
theorem dL_law_1176 : decode cL_law 1176 = .ok (.aload_n 0, 1) := by decide +kernel
theorem dL_law_1177 : decode cL_law 1177 = .ok (.iload 4, 2) := by decide +kernel
theorem dL_law_1179 : decode cL_law 1179 = .ok (.iconst 1, 1) := by decide +kernel
theorem dL_law_1180 : decode cL_law 1180 = .ok (.iadd, 1) := by decide +kernel
theorem dL_law_1181 : decode cL_law 1181 = .ok (.iaload, 1) := by decide +kernel
theorem dL_law_1182 : decode cL_law 1182 = .ok (.aload_n 3, 1) := by decide +kernel
theorem dL_law_1183 : decode cL_law 1183 = .ok (.invokestatic 144, 3) := by decide +kernel
theorem dL_law_1186 : decode cL_law 1186 = .ok (.istore 5, 2) := by decide +kernel
theorem dL_law_1188 : decode cL_law 1188 = .ok (.aload_n 2, 1) := by decide +kernel
theorem dL_law_1189 : decode cL_law 1189 = .ok (.aload_n 0, 1) := by decide +kernel
theorem dL_law_1190 : decode cL_law 1190 = .ok (.iload 4, 2) := by decide +kernel
theorem dL_law_1192 : decode cL_law 1192 = .ok (.iconst 1, 1) := by decide +kernel
theorem dL_law_1193 : decode cL_law 1193 = .ok (.iadd, 1) := by decide +kernel
theorem dL_law_1194 : decode cL_law 1194 = .ok (.iaload, 1) := by decide +kernel
theorem dL_law_1195 : decode cL_law 1195 = .ok (.invokevirtual 146, 3) := by decide +kernel
theorem dL_law_1198 : decode cL_law 1198 = .ok (.istore 6, 2) := by decide +kernel
theorem dL_law_1200 : decode cL_law 1200 = .ok (.aload_n 2, 1) := by decide +kernel
theorem dL_law_1201 : decode cL_law 1201 = .ok (.invokevirtual 82, 3) := by decide +kernel
theorem dL_law_1204 : decode cL_law 1204 = .ok (.iload 5, 2) := by decide +kernel
theorem dL_law_1206 : decode cL_law 1206 = .ok (.if_icmp .eq 5, 3) := by decide +kernel
theorem dL_law_1209 : decode cL_law 1209 = .ok (.iconst 0, 1) := by decide +kernel
theorem dL_law_1210 : decode cL_law 1210 = .ok (.ireturn, 1) := by decide +kernel
theorem dL_law_1211 : decode cL_law 1211 = .ok (.iload 5, 2) := by decide +kernel
theorem dL_law_1213 : decode cL_law 1213 = .ok (.ifCond .ne 15, 3) := by decide +kernel
theorem dL_law_1216 : decode cL_law 1216 = .ok (.aload_n 3, 1) := by decide +kernel
theorem dL_law_1217 : decode cL_law 1217 = .ok (.iconst 0, 1) := by decide +kernel
theorem dL_law_1218 : decode cL_law 1218 = .ok (.laload, 1) := by decide +kernel
theorem dL_law_1219 : decode cL_law 1219 = .ok (.iload 6, 2) := by decide +kernel
theorem dL_law_1221 : decode cL_law 1221 = .ok (.i2l, 1) := by decide +kernel
theorem dL_law_1222 : decode cL_law 1222 = .ok (.lcmp, 1) := by decide +kernel
theorem dL_law_1223 : decode cL_law 1223 = .ok (.ifCond .eq 5, 3) := by decide +kernel
theorem dL_law_1226 : decode cL_law 1226 = .ok (.iconst 0, 1) := by decide +kernel
theorem dL_law_1227 : decode cL_law 1227 = .ok (.ireturn, 1) := by decide +kernel
theorem dL_law_1228 : decode cL_law 1228 = .ok (.goto 78, 3) := by decide +kernel
theorem dL_law_1231 : decode cL_law 1231 = .ok (.aload_n 1, 1) := by decide +kernel
theorem dL_law_1232 : decode cL_law 1232 = .ok (.aload_n 0, 1) := by decide +kernel
theorem dL_law_1233 : decode cL_law 1233 = .ok (.iload 4, 2) := by decide +kernel
theorem dL_law_1235 : decode cL_law 1235 = .ok (.iconst 1, 1) := by decide +kernel
theorem dL_law_1236 : decode cL_law 1236 = .ok (.iadd, 1) := by decide +kernel
theorem dL_law_1237 : decode cL_law 1237 = .ok (.iaload, 1) := by decide +kernel
theorem dL_law_1238 : decode cL_law 1238 = .ok (.aload_n 0, 1) := by decide +kernel
theorem dL_law_1239 : decode cL_law 1239 = .ok (.iload 4, 2) := by decide +kernel
theorem dL_law_1241 : decode cL_law 1241 = .ok (.iconst 2, 1) := by decide +kernel
theorem dL_law_1242 : decode cL_law 1242 = .ok (.iadd, 1) := by decide +kernel
theorem dL_law_1243 : decode cL_law 1243 = .ok (.iaload, 1) := by decide +kernel
theorem dL_law_1244 : decode cL_law 1244 = .ok (.aload_n 3, 1) := by decide +kernel
theorem dL_law_1245 : decode cL_law 1245 = .ok (.invokestatic 147, 3) := by decide +kernel
theorem dL_law_1248 : decode cL_law 1248 = .ok (.istore 5, 2) := by decide +kernel
theorem dL_law_1250 : decode cL_law 1250 = .ok (.aload_n 2, 1) := by decide +kernel
theorem dL_law_1251 : decode cL_law 1251 = .ok (.aload_n 0, 1) := by decide +kernel
theorem dL_law_1252 : decode cL_law 1252 = .ok (.iload 4, 2) := by decide +kernel
theorem dL_law_1254 : decode cL_law 1254 = .ok (.iconst 1, 1) := by decide +kernel
theorem dL_law_1255 : decode cL_law 1255 = .ok (.iadd, 1) := by decide +kernel
theorem dL_law_1256 : decode cL_law 1256 = .ok (.iaload, 1) := by decide +kernel
theorem dL_law_1257 : decode cL_law 1257 = .ok (.aload_n 0, 1) := by decide +kernel
theorem dL_law_1258 : decode cL_law 1258 = .ok (.iload 4, 2) := by decide +kernel
theorem dL_law_1260 : decode cL_law 1260 = .ok (.iconst 2, 1) := by decide +kernel
theorem dL_law_1261 : decode cL_law 1261 = .ok (.iadd, 1) := by decide +kernel
theorem dL_law_1262 : decode cL_law 1262 = .ok (.iaload, 1) := by decide +kernel
theorem dL_law_1263 : decode cL_law 1263 = .ok (.invokevirtual 149, 3) := by decide +kernel
theorem dL_law_1266 : decode cL_law 1266 = .ok (.istore 6, 2) := by decide +kernel
theorem dL_law_1268 : decode cL_law 1268 = .ok (.aload_n 2, 1) := by decide +kernel
theorem dL_law_1269 : decode cL_law 1269 = .ok (.invokevirtual 82, 3) := by decide +kernel
theorem dL_law_1272 : decode cL_law 1272 = .ok (.iload 5, 2) := by decide +kernel
theorem dL_law_1274 : decode cL_law 1274 = .ok (.if_icmp .eq 5, 3) := by decide +kernel
theorem dL_law_1277 : decode cL_law 1277 = .ok (.iconst 0, 1) := by decide +kernel
theorem dL_law_1278 : decode cL_law 1278 = .ok (.ireturn, 1) := by decide +kernel
theorem dL_law_1279 : decode cL_law 1279 = .ok (.iload 5, 2) := by decide +kernel
theorem dL_law_1281 : decode cL_law 1281 = .ok (.ifCond .ne 22, 3) := by decide +kernel
theorem dL_law_1284 : decode cL_law 1284 = .ok (.aload_n 3, 1) := by decide +kernel
theorem dL_law_1285 : decode cL_law 1285 = .ok (.iconst 0, 1) := by decide +kernel
theorem dL_law_1286 : decode cL_law 1286 = .ok (.laload, 1) := by decide +kernel
theorem dL_law_1287 : decode cL_law 1287 = .ok (.iload 6, 2) := by decide +kernel
theorem dL_law_1289 : decode cL_law 1289 = .ok (.ifCond .eq 7, 3) := by decide +kernel
theorem dL_law_1292 : decode cL_law 1292 = .ok (.lconst 1, 1) := by decide +kernel
theorem dL_law_1293 : decode cL_law 1293 = .ok (.goto 4, 3) := by decide +kernel
theorem dL_law_1296 : decode cL_law 1296 = .ok (.lconst 0, 1) := by decide +kernel
theorem dL_law_1297 : decode cL_law 1297 = .ok (.lcmp, 1) := by decide +kernel
theorem dL_law_1298 : decode cL_law 1298 = .ok (.ifCond .eq 5, 3) := by decide +kernel
theorem dL_law_1301 : decode cL_law 1301 = .ok (.iconst 0, 1) := by decide +kernel
theorem dL_law_1302 : decode cL_law 1302 = .ok (.ireturn, 1) := by decide +kernel
theorem dL_law_1303 : decode cL_law 1303 = .ok (.goto 3, 3) := by decide +kernel
theorem dL_law_1306 : decode cL_law 1306 = .ok (.iinc 4 4, 3) := by decide +kernel
theorem dL_law_1309 : decode cL_law 1309 = .ok (.goto (-1286), 3) := by decide +kernel
theorem dL_law_1312 : decode cL_law 1312 = .ok (.iconst 1, 1) := by decide +kernel
theorem dL_law_1313 : decode cL_law 1313 = .ok (.ireturn, 1) := by decide +kernel
end
section
/-! THE FLAT HEAP: all cells of class, reference and law in one pool: K tells what a cell is (a code), P its references, I its whole numbers (as Int), J its longs. -/
def rg (x : Int) : Prop := -2147483648 ≤ x ∧ x < 2147483648
abbrev iv (x : Int) : Value := .int (Int32.ofInt x)
abbrev lgv (x : Int) : Value := .long (Int64.ofInt x)
def wr (x : Int) : Int := (Int32.ofInt x).toInt
def wl (x : Int) : Int := (Int64.ofInt x).toInt
theorem rg_toInt (x : Int32) : rg x.toInt := ⟨Int32.le_toInt x, Int32.toInt_lt x⟩
theorem rg_wr (x : Int) : rg (wr x) := rg_toInt _
theorem of_wr (x : Int) : Int32.ofInt (wr x) = Int32.ofInt x := Int32.ofInt_toInt _
theorem fl_tI {x : Int} (h : rg x) : (Int32.ofInt x).toInt = x := Int32.toInt_ofInt_of_le h.1 h.2
theorem wr_id {x : Int} (h1 : -2147483648 ≤ x) (h2 : x < 2147483648) : wr x = x := fl_tI ⟨h1, h2⟩
theorem wr_rg {x : Int} (h : rg x) : wr x = x := fl_tI h
theorem of_add (x y : Int) : Int32.ofInt x + Int32.ofInt y = Int32.ofInt (wr (x + y)) := by rw [of_wr, Int32.ofInt_add]
theorem of_sub (x y : Int) : Int32.ofInt x - Int32.ofInt y = Int32.ofInt (wr (x - y)) := by rw [of_wr, Int32.ofInt_sub]
theorem of_mul (x y : Int) : Int32.ofInt x * Int32.ofInt y = Int32.ofInt (wr (x * y)) := by rw [of_wr, Int32.ofInt_mul]
theorem of_neg (x : Int) : - Int32.ofInt x = Int32.ofInt (wr (-x)) := by rw [of_wr, Int32.ofInt_neg]
theorem of_lt {x y : Int} (hx : rg x) (hy : rg y) : Int32.ofInt x < Int32.ofInt y ↔ x < y := by rw [Int32.lt_iff_toInt_lt, fl_tI hx, fl_tI hy]
theorem of_le {x y : Int} (hx : rg x) (hy : rg y) : Int32.ofInt x ≤ Int32.ofInt y ↔ x ≤ y := by rw [Int32.le_iff_toInt_le, fl_tI hx, fl_tI hy]
theorem of_eq {x y : Int} (hx : rg x) (hy : rg y) : Int32.ofInt x = Int32.ofInt y ↔ x = y := by rw [← Int32.toInt_inj, fl_tI hx, fl_tI hy]
theorem of_clamp {x : Int} (hx : rg x) : (Int32.ofInt x).toNatClampNeg = x.toNat := by
  show ((Int32.ofInt x).toInt).toNat = _
  rw [fl_tI hx]
theorem of_in {x : Int} {n : Nat} (hx : rg x) (h : 0 ≤ x ∧ x < n) : vp_in (Int32.ofInt x) n := by
  rw [vp_in_iff, fl_tI hx]
  exact h
-- longs
def rl (x : Int) : Prop := -9223372036854775808 ≤ x ∧ x < 9223372036854775808
theorem rl_toInt (x : Int64) : rl x.toInt := ⟨Int64.le_toInt x, Int64.toInt_lt x⟩
theorem rl_wl (x : Int) : rl (wl x) := rl_toInt _
theorem rl_rg {x : Int} (h : rg x) : rl x := ⟨by have := h.1; omega, by have := h.2; omega⟩
theorem lof_wl (x : Int) : Int64.ofInt (wl x) = Int64.ofInt x := Int64.ofInt_toInt _
theorem fl_tL {x : Int} (h : rl x) : (Int64.ofInt x).toInt = x := Int64.toInt_ofInt_of_le h.1 h.2
theorem wl_id {x : Int} (h1 : -9223372036854775808 ≤ x) (h2 : x < 9223372036854775808) : wl x = x := fl_tL ⟨h1, h2⟩
theorem lof_add (x y : Int) : Int64.ofInt x + Int64.ofInt y = Int64.ofInt (wl (x + y)) := by rw [lof_wl, Int64.ofInt_add]
theorem lof_sub (x y : Int) : Int64.ofInt x - Int64.ofInt y = Int64.ofInt (wl (x - y)) := by rw [lof_wl, Int64.ofInt_sub]
theorem lof_mul (x y : Int) : Int64.ofInt x * Int64.ofInt y = Int64.ofInt (wl (x * y)) := by rw [lof_wl, Int64.ofInt_mul]
theorem lof_lt {x y : Int} (hx : rl x) (hy : rl y) : Int64.ofInt x < Int64.ofInt y ↔ x < y := by rw [Int64.lt_iff_toInt_lt, fl_tL hx, fl_tL hy]
theorem lof_eq {x y : Int} (hx : rl x) (hy : rl y) : Int64.ofInt x = Int64.ofInt y ↔ x = y := by rw [← Int64.toInt_inj, fl_tL hx, fl_tL hy]
theorem of_i2l {x : Int} (hx : rg x) : (Int32.ofInt x).toInt64 = Int64.ofInt x := by
  rw [← Int64.toInt_inj, Int32.toInt_toInt64, fl_tI hx, fl_tL (rl_rg hx)]
theorem lof_l2i (x : Int) : (Int64.ofInt x).toInt32 = Int32.ofInt (wr x) := by rw [of_wr, Int64.toInt32_ofInt]
/-- compare of longs, as lcmp answers -/
def cmpl (x y : Int) : Int := if x < y then -1 else if x = y then 0 else 1
theorem rg_cmpl (x y : Int) : rg (cmpl x y) := by unfold cmpl rg; split; decide; split <;> decide
-- bits
def ban (x y : Int) : Int := (Int32.ofInt x &&& Int32.ofInt y).toInt
def bor (x y : Int) : Int := (Int32.ofInt x ||| Int32.ofInt y).toInt
def bxo (x y : Int) : Int := (Int32.ofInt x ^^^ Int32.ofInt y).toInt
def bsl (x y : Int) : Int := (Int32.ofInt x <<< (Int32.ofInt y &&& 31)).toInt
def bsr (x y : Int) : Int := (Int32.ofInt x >>> (Int32.ofInt y &&& 31)).toInt
theorem rg_ban (x y : Int) : rg (ban x y) := rg_toInt _
theorem rg_bor (x y : Int) : rg (bor x y) := rg_toInt _
theorem rg_bxo (x y : Int) : rg (bxo x y) := rg_toInt _
theorem rg_bsl (x y : Int) : rg (bsl x y) := rg_toInt _
theorem rg_bsr (x y : Int) : rg (bsr x y) := rg_toInt _
def idv (x y : Int) : Int := (Int32.ofInt x / Int32.ofInt y).toInt
theorem rg_idv (x y : Int) : rg (idv x y) := rg_toInt _
theorem of_toInt (x : Int32) : Int32.ofInt x.toInt = x := Int32.ofInt_toInt x
-- state
abbrev IT : Type := Nat → Nat → Int
abbrev PT : Type := Nat → Nat → Nat
abbrev KT : Type := Nat → Nat
def up {α : Type} (f : Nat → Nat → α) (a k : Nat) (v : α) : Nat → Nat → α := fun b j => if b = a ∧ j = k then v else f b j
theorem up_s {α : Type} (f : Nat → Nat → α) (a k : Nat) (v : α) : up f a k v a k = v := by simp [up]
theorem up_a {α : Type} (f : Nat → Nat → α) {a b : Nat} (k j : Nat) (v : α) (h : b ≠ a) : up f a k v b j = f b j := by simp [up, h]
theorem up_k {α : Type} (f : Nat → Nat → α) (a b : Nat) {k j : Nat} (v : α) (h : j ≠ k) : up f a k v b j = f b j := by simp [up, h]
def rgI (I : IT) : Prop := ∀ a k, rg (I a k)
theorem rgI_up {I : IT} (h : rgI I) (a k : Nat) {v : Int} (hv : rg v) : rgI (up I a k v) := by
  intro b j
  unfold up
  split
  · exact hv
  · exact h b j
/-- a row copied into a row: dst[dp .. dp+n) := src[sp ..) -/
def cpy (I : IT) (b a sp dp n : Nat) : IT := fun c j => if c = a ∧ dp ≤ j ∧ j < dp + n then I b (sp + (j - dp)) else I c j
theorem rgI_cpy {I : IT} (h : rgI I) (b a sp dp n : Nat) : rgI (cpy I b a sp dp n) := by
  intro c j
  unfold cpy
  split <;> exact h _ _
/-- a new cell: all its numbers 0 -/
def clr (I : IT) (q : Nat) : IT := fun b j => if b = q then 0 else I b j
theorem rgI_clr {I : IT} (h : rgI I) (q : Nat) : rgI (clr I q) := by
  intro b j
  unfold clr
  split
  · exact ⟨by decide, by decide⟩
  · exact h b j
-- codes: 1..9 objects by their place in vwCl, 10 11 12 lists (of problems, entries, trials), 20 + i objects being made, from 100: arrays: 100 + 4 n + kind (0 int, 1 boolean, 2 references, 3 long)
def kci (c : Nat) : Nat := if c < 10 then c else if c < 20 then 0 else c - 20
def knf (i : Nat) : Nat := match i with
  | 0 => 3 | 1 => 8 | 2 => 5 | 3 => 7 | 4 => 3 | 5 => 2 | 6 => 5 | 7 => 3 | 8 => 12 | _ => 39
def krf (i k : Nat) : Bool := match i with
  | 0 => k == 1
  | 1 => k == 1 || k == 3
  | 2 => k == 0 || k == 1
  | 3 => k == 2 || k == 3 || k == 4
  | 4 => k == 0 || k == 1
  | 5 => k == 0
  | 6 => true
  | 7 => k == 0 || k == 1
  | 8 => decide (k < 10)
  | _ => !(k == 0 || k == 6 || k == 13 || k == 23 || k == 25 || k == 26 || k == 27 || k == 30 || k == 31 || k == 38)
/-- 0: null; 1: ArrayList's empty row; else the cell itself -/
def rfo (cy : Nat → ClassId) (n : Nat) : Option Nat := if n = 0 then none else if n = 1 then some (cy 7) else some n
theorem rfo_ne {cy : Nat → ClassId} {n : Nat} (h : 1 < n) : va_rf (rfo cy n) = .ref n := by
  have h1 : n ≠ 0 := by omega
  have h2 : n ≠ 1 := by omega
  simp [rfo, h1, h2, va_rf]
theorem rfo_1 {cy : Nat → ClassId} : va_rf (rfo cy 1) = .ref (cy 7) := rfl
def fval (cy : Nat → ClassId) (P : PT) (I : IT) (i a k : Nat) : Value := if krf i k = true then va_rf (rfo cy (P a k)) else iv (I a k)
def fobj (cy : Nat → ClassId) (P : PT) (I : IT) (i a : Nat) : List Value := (List.range (knf i)).map (fval cy P I i a)
def farr (cy : Nat → ClassId) (P : PT) (J I : IT) (kd a : Nat) : (Nat → Int32) ⊕ (Nat → Int64) ⊕ (Nat → UInt32) ⊕ (Nat → UInt64) ⊕ (Nat → Option Nat) :=
  if kd = 2 then .inr (.inr (.inr (.inr (fun j => rfo cy (P a j))))) else if kd = 3 then .inr (.inl (fun j => Int64.ofInt (J a j))) else .inl (fun j => Int32.ofInt (I a j))
def fcell (cy : Nat → ClassId) (K : KT) (P : PT) (J I : IT) (a : Nat) : va_E :=
  if K a < 100 then .inr (kci (K a), fobj cy P I (kci (K a)) a) else .inl (cy (K a % 4), ((K a - 100) / 4, farr cy P J I (K a % 4) a))
def ctys (cy : Nat → ClassId) : List (ClassId × FieldType) := [(cy 0, .int), (cy 1, .boolean), (cy 2, .object "java/lang/Object"), (cy 3, .long)]
-- the tables' words that a state keeps as it warms
def mvW : Cond → Bool
  | .fieldLinkNest .. => true
  | .methodLinkNest .. => true
  | .castable .. => true
  | .declares _ => true
  | w => goodWord w
theorem mvW_moved {w : Cond} (hw : mvW w = true) {s U : State} (hW : s.WarmedH U.vm) (h : va_Nw w s) : va_Nw w U := by
  unfold mvW at hw
  split at hw
  · exact va_Nw.warmF hW h
  · exact va_Nw.warmM hW h
  · exact va_Nw.warmC hW h
  · exact va_tabs rfl (rfl : (s.setVm U.vm).vm = U.vm) (by rw [Cond.declares_setVm hW.alike]; exact h)
  · exact word_at hW (good_of_word hw) h
theorem mvW_use {w : Cond} (hw : mvW w = true) {s : State} {A : Array Value} (h : va_Nw w s) : w.before A s = true := by
  unfold mvW at hw
  split at hw
  · exact va_Nw.use rfl h
  · exact va_Nw.use rfl h
  · exact va_Nw.use rfl h
  · exact va_Nw.use rfl h
  · exact word_at (State.WarmedH.refl s) (good_of_word hw) h
theorem mvW_of {w : Cond} (hw : mvW w = true) {s : State} {A : Array Value} (h : w.before A s = true) : va_Nw w s := by
  unfold mvW at hw
  split at hw
  · exact va_Nw.of rfl h
  · exact va_Nw.of rfl h
  · exact va_Nw.of rfl h
  · exact va_Nw.of rfl h
  · exact word_at (State.WarmedH.refl s) (good_of_word hw) h
def AW : List Cond := lw_tbl.filter mvW
theorem aw_of {w : Cond} {i : Nat} (h : lw_tbl[i]? = some w) (hm : mvW w = true) : w ∈ AW := List.mem_filter.mpr ⟨List.mem_of_getElem? h, hm⟩
/-- the texts of the class's throws -/
def txts : List (Nat × String) := [(297, "an argument is out of range"), (77, "the program has 16 instructions"), (87, "the input has 4 numbers"), (111, "there are 6 problems"), (300, "there is no such number"), (141, "the problem has 12 tests"), (147, "the solution has no answer"), (165, "a test would have no answer"), (179, "the place is below 0"), (189, "there are 60 entries"), (199, "the minute would be above 9999"), (285, "the team did not solve the problem"), (287, "the entry is its own, or not RIGHT"), (289, "the input can't be a test")]
/-- what every method finds of the tables -/
def FK (D : va_G) (cy : Nat → ClassId) (U : State) : Prop := va_K D vwCl (ctys cy) U ∧ (∀ w ∈ AW, va_Nw w U) ∧ (∀ t ∈ txts, ∃ a, vk_R "RejudgeHall" t.1 t.2 a U) ∧ va_AO "java/lang/Object" U ∧ ∃ mi, va_Mi "[Ljava/lang/Object;" mi U
theorem FK.moved {D : va_G} {cy : Nat → ClassId} {s U : State} (hW : s.WarmedH U.vm) (h : FK D cy s) : FK D cy U := ⟨va_K.moved hW.alike h.1, fun w hw => mvW_moved (List.mem_filter.mp hw).2 hW (h.2.1 w hw), fun t ht => (h.2.2.1 t ht).imp fun _ q => vk_R.warm hW q, va_AO.moved hW.alike h.2.2.2.1, h.2.2.2.2.imp fun _ q => va_Mi.moved hW.alike q⟩
theorem FK.use {D : va_G} {cy : Nat → ClassId} {s : State} (h : FK D cy s) {A : Array Value} : ∀ w ∈ AW, w.before A s = true := fun w hw => mvW_use (List.mem_filter.mp hw).2 (h.2.1 w hw)
theorem FK.same {D : va_G} {cy : Nat → ClassId} {s U : State} (hvm : s.vm = U.vm) (h : FK D cy s) : FK D cy U := FK.moved (by rw [← hvm]; exact State.WarmedH.refl s) h
/-- Throwable's two statics, and ArrayList's empty row (at cy 7), as they lie in a state of heap H -/
def FZ (cy : Nat → ClassId) (B : Nat) (U : State) (H : Heap) : Prop := (vx_Zq Bundle.tN "UNASSIGNED_STACK" Bundle.steD (fun q => B ≤ q) U H ∧ vx_Zq Bundle.tN "SUPPRESSED_SENTINEL" Bundle.listD (fun q => B ≤ q) U H) ∧ va_Z "java/util/ArrayList" "DEFAULTCAPACITY_EMPTY_ELEMENTDATA" "[Ljava/lang/Object;" (.ref (cy 7)) (fun q => B ≤ q) U H ∧ va_T (.object "java/lang/Object") (cy 7) 0 (fun _ => .null) (fun q => B ≤ q) U H
theorem FZ.moved {cy : Nat → ClassId} {B : Nat} {u U : State} {H : Heap} (hvm : u.vm.Alike U.vm) (h : FZ cy B u H) : FZ cy B U H := ⟨⟨vx_Zq.moved hvm h.1.1, vx_Zq.moved hvm h.1.2⟩, va_Z.moved hvm h.2.1, va_T.moved hvm h.2.2⟩
theorem FZ.kept {cy : Nat → ClassId} {B : Nat} {U : State} {H H1 : Heap} (h : FZ cy B U H) (hq : ∀ a : Nat, a < H.size → ¬ B ≤ a → H1[a]? = H[a]?) : FZ cy B U H1 := ⟨⟨h.1.1.kept hq, h.1.2.kept hq⟩, h.2.1.kept hq, h.2.2.kept hq⟩
end
section
/-- the whole of what stands between calls: the pool L holds what K, P, J, I tell; its cells are all B or above -/
def FS (D : va_G) (cy : Nat → ClassId) (B : Nat) (L : List Nat) (K : KT) (P : PT) (J : IT) (H0 : Heap) (I : IT) (H : Heap) (locs : List Loc) : Prop :=
  va_P D vwCl (va_pl L (fcell cy K P J I)) H ∧ va_D (fun q : Nat => B ≤ q) (va_pl L (fcell cy K P J I)) ∧ va_S (fun q : Nat => B ≤ q) H0 H locs ∧ (∀ a, K a ≠ 0 → a ∈ L) ∧ 1 < B ∧ B ≤ H0.size ∧ rgI I
/-- a state that a method finds or leaves -/
def FW (D : va_G) (cy : Nat → ClassId) (B : Nat) (L : List Nat) (K : KT) (P : PT) (J I : IT) (U : State) : Prop :=
  FS D cy B L K P J U.heap I U.heap [] ∧ FK D cy U ∧ FZ cy B U U.heap
/-- what a method's walk stands on -/
def FC (D : va_G) (cy : Nat → ClassId) (B : Nat) (p : Program) (s : State) (m : MethodId) (meth : Method) (c : Code) (own : String) (cc : ByteArray) (nL : Nat) : Prop :=
  p.tables.exec = Jvm.exec ∧ c.code = cc ∧ c.maxLocals = nL ∧ s.vm.findClass own = some m.cls ∧ meth.locks = false ∧ FK D cy s ∧ FZ cy B s s.heap
def Cls (ci : Nat) (C : String) (T : u_T) (ty : Nat → FieldType) : Prop :=
  vwCl[ci]? = some (C, T, knf ci) ∧ (∀ w ∈ u_ws C T (knf ci), w ∈ AW) ∧ (∀ k, k < knf ci → parseFieldDescriptor (T k).2.2.1 = some (ty k)) ∧ (∀ a, a < knf ci → ∀ b, b < knf ci → a ≠ b → (T a).2.1 ≠ (T b).2.1)
theorem fobj_at (cy : Nat → ClassId) (P : PT) (I : IT) (i a k : Nat) (hk : k < knf i) : (fobj cy P I i a)[k]? = some (fval cy P I i a k) := by
  simp [fobj, hk]
theorem fobj_len (cy : Nat → ClassId) (P : PT) (I : IT) (i a : Nat) : (fobj cy P I i a).length = knf i := by simp [fobj]
theorem fcell_obj {cy : Nat → ClassId} {K : KT} {P : PT} {J I : IT} {a ci : Nat} (h : K a < 100) (hc : kci (K a) = ci) : fcell cy K P J I a = .inr (ci, fobj cy P I ci a) := by
  subst hc
  simp [fcell, h]
theorem fcell_arr {cy : Nat → ClassId} {K : KT} {P : PT} {J I : IT} {a n kd : Nat} (h : K a = 100 + 4 * n + kd) (hk : kd < 4) : fcell cy K P J I a = .inl (cy kd, (n, farr cy P J I kd a)) := by
  have h1 : ¬ K a < 100 := by omega
  have h2 : K a % 4 = kd := by omega
  have h3 : (K a - 100) / 4 = n := by omega
  simp only [fcell, if_neg h1, h2, h3]
theorem fobj_set {cy : Nat → ClassId} {P P' : PT} {I I' : IT} {i a k : Nat} {v : Value} (hk : k < knf i) (hv : fval cy P' I' i a k = v) (ho : ∀ j, j ≠ k → fval cy P' I' i a j = fval cy P I i a j) : (fobj cy P I i a).set k v = fobj cy P' I' i a := by
  apply List.ext_getElem?
  intro j
  rw [List.getElem?_set]
  by_cases hj : k = j
  · subst hj
    rw [if_pos rfl, fobj_len, if_pos hk, fobj_at _ _ _ _ _ _ hk, hv]
  · rw [if_neg hj]
    simp only [fobj, List.getElem?_map]
    cases h : (List.range (knf i))[j]? with
    | none => rfl
    | some x =>
      have : x = j := by
        have h' := List.getElem?_eq_some_iff.mp h
        obtain ⟨h1, h2⟩ := h'
        rw [List.getElem_range] at h2
        exact h2.symm
      subst this
      simp [ho x (Ne.symm hj)]
section FR
variable {p : Program} {l : Launch} {e : Env} {R : Room} {s : State} {m : MethodId} {args : Array Value} {below : List Frame} {meth : Method} {c : Code} {H : Heap} {locs : List Loc} {cells slots : Nat} {Q : State → Prop}
variable {D : va_G} {cy : Nat → ClassId} {B : Nat} {L : List Nat} {K : KT} {P : PT} {J I : IT} {own : String} {cc : ByteArray} {nL pc : Nat} {ls : Array Slot} {rest : List Value} {H0 : Heap}
theorem FS.get (hF : FS D cy B L K P J H0 I H locs) {a : Nat} (hk : K a ≠ 0) : ∃ k : Nat, (va_pl L (fcell cy K P J I))[k]? = some (a, fcell cy K P J I a) := by
  have h := va_pl_get (X := []) (f := fcell cy K P J I) (hF.2.2.2.1 a hk)
  rw [List.nil_append] at h
  exact h
theorem fl_set {A : Nat → Prop} {f g : Nat → va_E} {a k : Nat} {e : va_E} (hD : va_D A (va_pl L f)) (h : a ∈ L) (hk : (va_pl L f)[k]? = some (a, f a)) (he : g a = e) (ho : ∀ b, b ≠ a → g b = f b) : (va_pl L f).set k (a, e) = va_pl L g := by
  have h1 := va_pl_set (X := []) (e := e) (by rw [List.nil_append]; exact hD) h (by rw [List.nil_append]; exact hk)
  rw [List.nil_append, List.nil_append] at h1
  rw [h1]
  apply va_pl_congr
  intro b
  by_cases hb : b = a
  · subst hb
    rw [va_up_self, he]
  · rw [va_up_ne _ _ hb, ho b hb]
theorem fl_get {ci k : Nat} {C : String} {T : u_T} {ty : Nat → FieldType} {a idx : Nat} {nm ds : String} {v : Value} (hC : Cls ci C T ty) (C0 : FC D cy B p s m meth c own cc nL) (hF : FS D cy B L K P J H0 I H locs)
    (hka : K a ≠ 0) (hlt : K a < 100) (hci : kci (K a) = ci) (hk : k < knf ci) (hv : fval cy P I ci a k = v) (hT : (T k).2.1 = nm ∧ (T k).2.2.1 = ds) (hw : Cond.fieldLink own idx (T k).1 nm ds ∈ AW) (hdg : decode cc pc = .ok (.getfield idx, 3))
    (kk : W p l e R s m args below meth c H locs cells slots Q (F0 m (pc + 3) ls (v :: rest))) : W p l e R s m args below meth c H locs cells slots Q (F0 m pc ls (.ref a :: rest)) := by
  obtain ⟨hx, hb, -, hown, -, hFK, -⟩ := C0
  obtain ⟨k0, hk0⟩ := hF.get hka
  rw [fcell_obj hlt hci] at hk0
  obtain ⟨rfl, rfl⟩ := hT
  exact va_get hx hb hFK.use hC.2.1 hown hFK.1 hF.1 k0 hk0 hC.1 k hk (hFK.use _ hw) (fun _ h => h) (by rw [fobj_at _ _ _ _ _ _ hk, hv]) hdg kk
theorem fl_getN {ci k : Nat} {C : String} {T : u_T} {ty : Nat → FieldType} {a idx : Nat} {nm ds host : String} {v : Value} (hC : Cls ci C T ty) (C0 : FC D cy B p s m meth c own cc nL) (hF : FS D cy B L K P J H0 I H locs)
    (hka : K a ≠ 0) (hlt : K a < 100) (hci : kci (K a) = ci) (hk : k < knf ci) (hv : fval cy P I ci a k = v) (hT : (T k).2.1 = nm ∧ (T k).2.2.1 = ds) (hw : Cond.fieldLinkNest own idx (T k).1 nm ds host ∈ AW) (hdg : decode cc pc = .ok (.getfield idx, 3))
    (kk : W p l e R s m args below meth c H locs cells slots Q (F0 m (pc + 3) ls (v :: rest))) : W p l e R s m args below meth c H locs cells slots Q (F0 m pc ls (.ref a :: rest)) := by
  obtain ⟨hx, hb, -, hown, -, hFK, -⟩ := C0
  obtain ⟨k0, hk0⟩ := hF.get hka
  rw [fcell_obj hlt hci] at hk0
  obtain ⟨rfl, rfl⟩ := hT
  exact va_getN hx hb hFK.use hC.2.1 hown hFK.1 hF.1 k0 hk0 hC.1 k hk (hFK.use _ hw) (fun _ h => h) (by rw [fobj_at _ _ _ _ _ _ hk, hv]) hdg kk
/-- the pool after a number of an object, or of a row, has changed -/
theorem fcell_up {a k b : Nat} {x : Int} (h : b ≠ a) : fcell cy K P J (up I a k x) b = fcell cy K P J I b := by
  have h1 : ∀ j, up I a k x b j = I b j := fun j => up_a I k j x h
  have h2 : fobj cy P (up I a k x) (kci (K b)) b = fobj cy P I (kci (K b)) b := by
    unfold fobj
    apply List.map_congr_left
    intro j _
    simp only [fval, h1]
  have h3 : farr cy P J (up I a k x) (K b % 4) b = farr cy P J I (K b % 4) b := by
    unfold farr
    simp only [h1]
  simp only [fcell, h2, h3]
theorem fl_put {ci k : Nat} {C : String} {T : u_T} {ty : Nat → FieldType} {a idx : Nat} {nm ds : String} {x : Int} (hC : Cls ci C T ty) (C0 : FC D cy B p s m meth c own cc nL) (hF : FS D cy B L K P J H0 I H locs)
    (hka : K a ≠ 0) (hlt : K a < 100) (hci : kci (K a) = ci) (hk : k < knf ci) (hr : krf ci k = false) (hrx : rg x) (hfin : (T k).2.2.2 = false) (hT : (T k).2.1 = nm ∧ (T k).2.2.1 = "I" ∧ ds = "I") (hw : Cond.fieldLink own idx (T k).1 nm ds ∈ AW) (hdg : decode cc pc = .ok (.putfield idx, 3))
    (kk : ∀ (H1 : Heap) (locs1 : List Loc), FS D cy B L K P J H0 (up I a k x) H1 locs1 → W p l e R s m args below meth c H1 locs1 cells slots Q (F0 m (pc + 3) ls rest)) : W p l e R s m args below meth c H locs cells slots Q (F0 m pc ls (iv x :: .ref a :: rest)) := by
  obtain ⟨hx, hb, -, hown, -, hFK, -⟩ := C0
  obtain ⟨k0, hk0⟩ := hF.get hka
  have hk1 := hk0
  rw [fcell_obj hlt hci] at hk0
  obtain ⟨rfl, hds, rfl⟩ := hT
  refine va_put hx hb hFK.use hC.2.1 ty hC.2.2.1 hC.2.2.2 hown hFK.1 hF.1 hF.2.1 hF.2.2.1 k0 hk0 hC.1 k hk (by rw [hds]; exact hFK.use _ hw) (fun _ h => h) hfin (ty := .int) (by rw [hds]; rfl) rfl rfl (by rw [fobj_len]; exact hk) hdg ?_
  intro H1 locs1 h1 h2 h3
  have hset : (fobj cy P I ci a).set k (iv x) = fobj cy P (up I a k x) ci a := fobj_set hk (by simp [fval, hr, up_s]) (fun j hj => by simp [fval, up_k I a a x hj])
  have he := fl_set (g := fcell cy K P J (up I a k x)) hF.2.1 (hF.2.2.2.1 a hka) hk1 (fcell_obj hlt hci) (fun b hb => fcell_up hb)
  rw [hset, he] at h1 h2
  exact kk H1 locs1 ⟨h1, h2, h3, hF.2.2.2.1, hF.2.2.2.2.1, hF.2.2.2.2.2.1, rgI_up hF.2.2.2.2.2.2 a k hrx⟩
theorem fl_putN {ci k : Nat} {C : String} {T : u_T} {ty : Nat → FieldType} {a idx : Nat} {nm ds host : String} {x : Int} (hC : Cls ci C T ty) (C0 : FC D cy B p s m meth c own cc nL) (hF : FS D cy B L K P J H0 I H locs)
    (hka : K a ≠ 0) (hlt : K a < 100) (hci : kci (K a) = ci) (hk : k < knf ci) (hr : krf ci k = false) (hrx : rg x) (hfin : (T k).2.2.2 = false) (hT : (T k).2.1 = nm ∧ (T k).2.2.1 = "I" ∧ ds = "I") (hw : Cond.fieldLinkNest own idx (T k).1 nm ds host ∈ AW) (hdg : decode cc pc = .ok (.putfield idx, 3))
    (kk : ∀ (H1 : Heap) (locs1 : List Loc), FS D cy B L K P J H0 (up I a k x) H1 locs1 → W p l e R s m args below meth c H1 locs1 cells slots Q (F0 m (pc + 3) ls rest)) : W p l e R s m args below meth c H locs cells slots Q (F0 m pc ls (iv x :: .ref a :: rest)) := by
  obtain ⟨hx, hb, -, hown, -, hFK, -⟩ := C0
  obtain ⟨k0, hk0⟩ := hF.get hka
  have hk1 := hk0
  rw [fcell_obj hlt hci] at hk0
  obtain ⟨rfl, hds, rfl⟩ := hT
  refine va_putN hx hb hFK.use hC.2.1 ty hC.2.2.1 hC.2.2.2 hown hFK.1 hF.1 hF.2.1 hF.2.2.1 k0 hk0 hC.1 k hk (by rw [hds]; exact hFK.use _ hw) (fun _ h => h) hfin (ty := .int) (by rw [hds]; rfl) rfl rfl (by rw [fobj_len]; exact hk) hdg ?_
  intro H1 locs1 h1 h2 h3
  have hset : (fobj cy P I ci a).set k (iv x) = fobj cy P (up I a k x) ci a := fobj_set hk (by simp [fval, hr, up_s]) (fun j hj => by simp [fval, up_k I a a x hj])
  have he := fl_set (g := fcell cy K P J (up I a k x)) hF.2.1 (hF.2.2.2.1 a hka) hk1 (fcell_obj hlt hci) (fun b hb => fcell_up hb)
  rw [hset, he] at h1 h2
  exact kk H1 locs1 ⟨h1, h2, h3, hF.2.2.2.1, hF.2.2.2.2.1, hF.2.2.2.2.2.1, rgI_up hF.2.2.2.2.2.2 a k hrx⟩
theorem farr_int (cy : Nat → ClassId) (P : PT) (J I : IT) (a : Nat) : farr cy P J I 0 a = .inl (fun j => Int32.ofInt (I a j)) := rfl
theorem farr_bool (cy : Nat → ClassId) (P : PT) (J I : IT) (a : Nat) : farr cy P J I 1 a = .inl (fun j => Int32.ofInt (I a j)) := rfl
theorem farr_ref (cy : Nat → ClassId) (P : PT) (J I : IT) (a : Nat) : farr cy P J I 2 a = .inr (.inr (.inr (.inr (fun j => rfo cy (P a j))))) := rfl
theorem farr_long (cy : Nat → ClassId) (P : PT) (J I : IT) (a : Nat) : farr cy P J I 3 a = .inr (.inl (fun j => Int64.ofInt (J a j))) := rfl
theorem fl_iald {a n : Nat} {i : Int} (C0 : FC D cy B p s m meth c own cc nL) (hF : FS D cy B L K P J H0 I H locs) (hka : K a = 100 + 4 * n) (hri : rg i) (hi : 0 ≤ i ∧ i < n) (hdg : decode cc pc = .ok (.iaload, 1))
    (kk : W p l e R s m args below meth c H locs cells slots Q (F0 m (pc + 1) ls (iv (I a i.toNat) :: rest))) : W p l e R s m args below meth c H locs cells slots Q (F0 m pc ls (iv i :: .ref a :: rest)) := by
  obtain ⟨hx, hb, -, hown, -, hFK, -⟩ := C0
  obtain ⟨k0, hk0⟩ := hF.get (a := a) (by omega)
  rw [fcell_arr (kd := 0) hka (by decide), farr_int] at hk0
  refine va_iald hx hb hFK.1 hF.1 k0 0 hk0 rfl (of_in hri hi) hdg ?_
  rw [of_clamp hri]
  exact kk
theorem fl_zald {a n : Nat} {i : Int} (C0 : FC D cy B p s m meth c own cc nL) (hF : FS D cy B L K P J H0 I H locs) (hka : K a = 101 + 4 * n) (hri : rg i) (hi : 0 ≤ i ∧ i < n) (hdg : decode cc pc = .ok (.baload, 1))
    (kk : W p l e R s m args below meth c H locs cells slots Q (F0 m (pc + 1) ls (iv (I a i.toNat) :: rest))) : W p l e R s m args below meth c H locs cells slots Q (F0 m pc ls (iv i :: .ref a :: rest)) := by
  obtain ⟨hx, hb, -, hown, -, hFK, -⟩ := C0
  obtain ⟨k0, hk0⟩ := hF.get (a := a) (by omega)
  rw [fcell_arr (kd := 1) (n := n) (by omega) (by decide), farr_bool] at hk0
  refine va_zald hx hb hFK.1 hF.1 k0 1 hk0 rfl (of_in hri hi) hdg ?_
  rw [of_clamp hri]
  exact kk
theorem fl_alen {a n kd : Nat} (C0 : FC D cy B p s m meth c own cc nL) (hF : FS D cy B L K P J H0 I H locs) (hka : K a = 100 + 4 * n + kd) (hkd : kd < 4) (hdg : decode cc pc = .ok (.arraylength, 1))
    (kk : W p l e R s m args below meth c H locs cells slots Q (F0 m (pc + 1) ls (iv (n : Int) :: rest))) : W p l e R s m args below meth c H locs cells slots Q (F0 m pc ls (.ref a :: rest)) := by
  obtain ⟨hx, hb, -, hown, -, hFK, -⟩ := C0
  obtain ⟨k0, hk0⟩ := hF.get (a := a) (by omega)
  rw [fcell_arr (kd := kd) hka hkd] at hk0
  have ht : ∃ ty, (ctys cy)[kd]? = some (cy kd, ty) := by
    rcases kd with _ | _ | _ | _ | kd
    · exact ⟨_, rfl⟩
    · exact ⟨_, rfl⟩
    · exact ⟨_, rfl⟩
    · exact ⟨_, rfl⟩
    · omega
  obtain ⟨ty, ht⟩ := ht
  refine va_alen hx hb hFK.1 hF.1 k0 kd hk0 ht (v := Int32.ofInt (n : Int)) ?_ hdg kk
  simp [Int32.ofInt, Int32.ofNat]
theorem fl_iast {a n : Nat} {i x : Int} (C0 : FC D cy B p s m meth c own cc nL) (hF : FS D cy B L K P J H0 I H locs) (hka : K a = 100 + 4 * n) (hri : rg i) (hrx : rg x) (hi : 0 ≤ i ∧ i < n) (hdg : decode cc pc = .ok (.iastore, 1))
    (kk : ∀ (H1 : Heap) (locs1 : List Loc), FS D cy B L K P J H0 (up I a i.toNat x) H1 locs1 → W p l e R s m args below meth c H1 locs1 cells slots Q (F0 m (pc + 1) ls rest)) : W p l e R s m args below meth c H locs cells slots Q (F0 m pc ls (iv x :: iv i :: .ref a :: rest)) := by
  obtain ⟨hx, hb, -, hown, -, hFK, -⟩ := C0
  obtain ⟨k0, hk0⟩ := hF.get (a := a) (by omega)
  have hk1 := hk0
  have hcell : ∀ I' : IT, fcell cy K P J I' a = .inl (cy 0, (n, .inl (fun j => Int32.ofInt (I' a j)))) := fun I' => by rw [fcell_arr (kd := 0) hka (by decide), farr_int]
  rw [hcell] at hk0
  refine va_iast hx hb hFK.1 hF.1 hF.2.1 hF.2.2.1 k0 0 hk0 rfl (of_in hri hi) hdg ?_
  intro H1 locs1 h1 h2 h3
  have he := fl_set (g := fcell cy K P J (up I a i.toNat x)) hF.2.1 (hF.2.2.2.1 a (by omega)) hk1 (hcell _) (fun b hb => fcell_up hb)
  have hf : (upd (fun j => Int32.ofInt (I a j)) (Int32.ofInt i).toNatClampNeg (Int32.ofInt x)) = fun j => Int32.ofInt (up I a i.toNat x a j) := by
    funext j
    rw [of_clamp hri]
    by_cases hj : j = i.toNat
    · subst hj; simp [upd, up_s]
    · simp [upd, hj, up_k I a a x hj]
  rw [hf, he] at h1 h2
  exact kk H1 locs1 ⟨h1, h2, h3, hF.2.2.2.1, hF.2.2.2.2.1, hF.2.2.2.2.2.1, rgI_up hF.2.2.2.2.2.2 a _ hrx⟩
theorem fl_zast {a n : Nat} {i x : Int} (C0 : FC D cy B p s m meth c own cc nL) (hF : FS D cy B L K P J H0 I H locs) (hka : K a = 101 + 4 * n) (hri : rg i) (hx01 : x = 0 ∨ x = 1) (hi : 0 ≤ i ∧ i < n) (hdg : decode cc pc = .ok (.bastore, 1))
    (kk : ∀ (H1 : Heap) (locs1 : List Loc), FS D cy B L K P J H0 (up I a i.toNat x) H1 locs1 → W p l e R s m args below meth c H1 locs1 cells slots Q (F0 m (pc + 1) ls rest)) : W p l e R s m args below meth c H locs cells slots Q (F0 m pc ls (iv x :: iv i :: .ref a :: rest)) := by
  obtain ⟨hx, hb, -, hown, -, hFK, -⟩ := C0
  obtain ⟨k0, hk0⟩ := hF.get (a := a) (by omega)
  have hk1 := hk0
  have hcell : ∀ I' : IT, fcell cy K P J I' a = .inl (cy 1, (n, .inl (fun j => Int32.ofInt (I' a j)))) := fun I' => by rw [fcell_arr (kd := 1) (n := n) (by omega) (by decide), farr_bool]
  rw [hcell] at hk0
  refine va_zast hx hb hFK.1 hF.1 hF.2.1 hF.2.2.1 k0 1 hk0 rfl (of_in hri hi) hdg ?_
  intro H1 locs1 h1 h2 h3
  have he := fl_set (g := fcell cy K P J (up I a i.toNat x)) hF.2.1 (hF.2.2.2.1 a (by omega)) hk1 (hcell _) (fun b hb => fcell_up hb)
  have hrx : rg x := by rcases hx01 with rfl | rfl <;> exact ⟨by decide, by decide⟩
  have hn : vp_nar .boolean (Int32.ofInt x) = Int32.ofInt x := by rcases hx01 with rfl | rfl <;> decide
  have hf : (upd (fun j => Int32.ofInt (I a j)) (Int32.ofInt i).toNatClampNeg (vp_nar .boolean (Int32.ofInt x))) = fun j => Int32.ofInt (up I a i.toNat x a j) := by
    funext j
    rw [of_clamp hri, hn]
    by_cases hj : j = i.toNat
    · subst hj; simp [upd, up_s]
    · simp [upd, hj, up_k I a a x hj]
  rw [hf, he] at h1 h2
  exact kk H1 locs1 ⟨h1, h2, h3, hF.2.2.2.1, hF.2.2.2.2.1, hF.2.2.2.2.2.1, rgI_up hF.2.2.2.2.2.2 a _ hrx⟩
end FR
end
section
def gok (c ci k : Nat) (b : Bool) : Bool := c != 0 && decide (c < 100) && kci c == ci && decide (k < knf ci) && krf ci k == b
theorem gok_of {c ci k : Nat} {b : Bool} (h : gok c ci k b = true) : c ≠ 0 ∧ c < 100 ∧ kci c = ci ∧ k < knf ci ∧ krf ci k = b := by
  simp only [gok, Bool.and_eq_true, bne_iff_ne, decide_eq_true_eq, beq_iff_eq] at h
  exact ⟨h.1.1.1.1, h.1.1.1.2, h.1.1.2, h.1.2, h.2⟩
def cok (c ci : Nat) : Bool := c != 0 && decide (c < 100) && kci c == ci
theorem cok_of {c ci : Nat} (h : cok c ci = true) : c ≠ 0 ∧ c < 100 ∧ kci c = ci := by
  simp only [cok, Bool.and_eq_true, bne_iff_ne, decide_eq_true_eq, beq_iff_eq] at h
  exact ⟨h.1.1, h.1.2, h.2⟩
theorem iv_toInt (z : Int32) : iv z.toInt = .int z := congrArg Value.int (of_toInt z)
section FI
variable {p : Program} {l : Launch} {e : Env} {R : Room} {s : State} {m : MethodId} {args : Array Value} {below : List Frame} {meth : Method} {c : Code} {H : Heap} {locs : List Loc} {cells slots : Nat} {Q : State → Prop}
variable {D : va_G} {cy : Nat → ClassId} {B : Nat} {L : List Nat} {K : KT} {P : PT} {J I : IT} {own : String} {cc : ByteArray} {nL pc : Nat} {ls : Array Slot} {rest : List Value} {H0 : Heap}
theorem fl_iconst {n : Int} (C0 : FC D cy B p s m meth c own cc nL) (hdg : decode cc pc = .ok (.iconst n, 1)) (k : W p l e R s m args below meth c H locs cells slots Q (F0 m (pc + 1) ls (iv n :: rest))) : W p l e R s m args below meth c H locs cells slots Q (F0 m pc ls rest) := lv_iconst C0.1 C0.2.1 hdg rfl k
theorem fl_bipush {n : Int} (C0 : FC D cy B p s m meth c own cc nL) (hdg : decode cc pc = .ok (.bipush n, 2)) (hv : (Int8.ofInt n).toInt32 = Int32.ofInt n) (k : W p l e R s m args below meth c H locs cells slots Q (F0 m (pc + 2) ls (iv n :: rest))) : W p l e R s m args below meth c H locs cells slots Q (F0 m pc ls rest) := lv_bipush C0.1 C0.2.1 hdg hv k
theorem fl_sipush {n : Int} (C0 : FC D cy B p s m meth c own cc nL) (hdg : decode cc pc = .ok (.sipush n, 3)) (hv : (Int16.ofInt n).toInt32 = Int32.ofInt n) (k : W p l e R s m args below meth c H locs cells slots Q (F0 m (pc + 3) ls (iv n :: rest))) : W p l e R s m args below meth c H locs cells slots Q (F0 m pc ls rest) := lv_sipush C0.1 C0.2.1 hdg hv k
theorem fl_ldc {n : Int} {v : Int32} {idx : Nat} (C0 : FC D cy B p s m meth c own cc nL) (hw : Cond.constant own idx v ∈ AW) (hv : v = Int32.ofInt n) (hdg : decode cc pc = .ok (.ldc idx, 2)) (k : W p l e R s m args below meth c H locs cells slots Q (F0 m (pc + 2) ls (iv n :: rest))) : W p l e R s m args below meth c H locs cells slots Q (F0 m pc ls rest) := by
  subst hv
  exact lv_ldc C0.1 C0.2.1 C0.2.2.2.1 (C0.2.2.2.2.2.1.use _ hw) hdg k
theorem fl_ldc2 {n : Int} {v : Int64} {idx : Nat} (C0 : FC D cy B p s m meth c own cc nL) (hw : Cond.constantLong own idx v ∈ AW) (hv : v = Int64.ofInt n) (hdg : decode cc pc = .ok (.ldc2_w idx, 3)) (k : W p l e R s m args below meth c H locs cells slots Q (F0 m (pc + 3) ls (lgv n :: rest))) : W p l e R s m args below meth c H locs cells slots Q (F0 m pc ls rest) := by
  subst hv
  exact lv_ldc2 C0.1 C0.2.1 C0.2.2.2.1 (C0.2.2.2.2.2.1.use _ hw) hdg k
theorem fl_lconst {n : Fin 2} (C0 : FC D cy B p s m meth c own cc nL) (hdg : decode cc pc = .ok (.lconst n, 1)) (k : W p l e R s m args below meth c H locs cells slots Q (F0 m (pc + 1) ls (lgv ((n : Nat) : Int) :: rest))) : W p l e R s m args below meth c H locs cells slots Q (F0 m pc ls rest) := lv_lconst C0.1 C0.2.1 hdg (by simp [Int64.ofInt, Int64.ofNat]) k
theorem fl_goto {off : Int} {tgt : Nat} (C0 : FC D cy B p s m meth c own cc nL) (hdg : decode cc pc = .ok (.goto off, 3)) (ht : (pc : Int) + off = (tgt : Int)) (k : W p l e R s m args below meth c H locs cells slots Q (F0 m tgt ls rest)) : W p l e R s m args below meth c H locs cells slots Q (F0 m pc ls rest) := lv_goto C0.1 C0.2.1 hdg ht k
theorem fl_iadd {x y : Int} (C0 : FC D cy B p s m meth c own cc nL) (hdg : decode cc pc = .ok (.iadd, 1)) (k : W p l e R s m args below meth c H locs cells slots Q (F0 m (pc + 1) ls (iv (wr (x + y)) :: rest))) : W p l e R s m args below meth c H locs cells slots Q (F0 m pc ls (iv y :: iv x :: rest)) := lv_iadd C0.1 C0.2.1 hdg (by rw [of_add]; exact k)
theorem fl_isub {x y : Int} (C0 : FC D cy B p s m meth c own cc nL) (hdg : decode cc pc = .ok (.isub, 1)) (k : W p l e R s m args below meth c H locs cells slots Q (F0 m (pc + 1) ls (iv (wr (x - y)) :: rest))) : W p l e R s m args below meth c H locs cells slots Q (F0 m pc ls (iv y :: iv x :: rest)) := lv_isub C0.1 C0.2.1 hdg (by rw [of_sub]; exact k)
theorem fl_imul {x y : Int} (C0 : FC D cy B p s m meth c own cc nL) (hdg : decode cc pc = .ok (.imul, 1)) (k : W p l e R s m args below meth c H locs cells slots Q (F0 m (pc + 1) ls (iv (wr (x * y)) :: rest))) : W p l e R s m args below meth c H locs cells slots Q (F0 m pc ls (iv y :: iv x :: rest)) := lv_imul C0.1 C0.2.1 hdg (by rw [of_mul]; exact k)
theorem fl_ineg {x : Int} (C0 : FC D cy B p s m meth c own cc nL) (hdg : decode cc pc = .ok (.ineg, 1)) (k : W p l e R s m args below meth c H locs cells slots Q (F0 m (pc + 1) ls (iv (wr (-x)) :: rest))) : W p l e R s m args below meth c H locs cells slots Q (F0 m pc ls (iv x :: rest)) := lv_ineg C0.1 C0.2.1 hdg (by rw [of_neg]; exact k)
theorem fl_iand {x y : Int} (C0 : FC D cy B p s m meth c own cc nL) (hdg : decode cc pc = .ok (.iand, 1)) (k : W p l e R s m args below meth c H locs cells slots Q (F0 m (pc + 1) ls (iv (ban x y) :: rest))) : W p l e R s m args below meth c H locs cells slots Q (F0 m pc ls (iv y :: iv x :: rest)) := lv_iand C0.1 C0.2.1 hdg (by unfold ban at k; rw [iv_toInt] at k; exact k)
theorem fl_ior {x y : Int} (C0 : FC D cy B p s m meth c own cc nL) (hdg : decode cc pc = .ok (.ior, 1)) (k : W p l e R s m args below meth c H locs cells slots Q (F0 m (pc + 1) ls (iv (bor x y) :: rest))) : W p l e R s m args below meth c H locs cells slots Q (F0 m pc ls (iv y :: iv x :: rest)) := lv_ior C0.1 C0.2.1 hdg (by unfold bor at k; rw [iv_toInt] at k; exact k)
theorem fl_ixor {x y : Int} (C0 : FC D cy B p s m meth c own cc nL) (hdg : decode cc pc = .ok (.ixor, 1)) (k : W p l e R s m args below meth c H locs cells slots Q (F0 m (pc + 1) ls (iv (bxo x y) :: rest))) : W p l e R s m args below meth c H locs cells slots Q (F0 m pc ls (iv y :: iv x :: rest)) := lv_ixor C0.1 C0.2.1 hdg (by unfold bxo at k; rw [iv_toInt] at k; exact k)
theorem fl_ishl {x y : Int} (C0 : FC D cy B p s m meth c own cc nL) (hdg : decode cc pc = .ok (.ishl, 1)) (k : W p l e R s m args below meth c H locs cells slots Q (F0 m (pc + 1) ls (iv (bsl x y) :: rest))) : W p l e R s m args below meth c H locs cells slots Q (F0 m pc ls (iv y :: iv x :: rest)) := lv_ishl C0.1 C0.2.1 hdg (by unfold bsl at k; rw [iv_toInt] at k; exact k)
theorem fl_ishr {x y : Int} (C0 : FC D cy B p s m meth c own cc nL) (hdg : decode cc pc = .ok (.ishr, 1)) (k : W p l e R s m args below meth c H locs cells slots Q (F0 m (pc + 1) ls (iv (bsr x y) :: rest))) : W p l e R s m args below meth c H locs cells slots Q (F0 m pc ls (iv y :: iv x :: rest)) := lv_ishr C0.1 C0.2.1 hdg (by unfold bsr at k; rw [iv_toInt] at k; exact k)
theorem fl_idiv {x y : Int} (C0 : FC D cy B p s m meth c own cc nL) (ry : rg y) (hy : y ≠ 0) (hdg : decode cc pc = .ok (.idiv, 1)) (k : W p l e R s m args below meth c H locs cells slots Q (F0 m (pc + 1) ls (iv (idv x y) :: rest))) : W p l e R s m args below meth c H locs cells slots Q (F0 m pc ls (iv y :: iv x :: rest)) := lv_idiv C0.1 C0.2.1 hdg (fun h => hy ((of_eq ry ⟨by decide, by decide⟩).mp (h.trans rfl))) (by unfold idv at k; rw [iv_toInt] at k; exact k)
theorem fl_ladd {x y : Int} (C0 : FC D cy B p s m meth c own cc nL) (hdg : decode cc pc = .ok (.ladd, 1)) (k : W p l e R s m args below meth c H locs cells slots Q (F0 m (pc + 1) ls (lgv (wl (x + y)) :: rest))) : W p l e R s m args below meth c H locs cells slots Q (F0 m pc ls (lgv y :: lgv x :: rest)) := lv_ladd C0.1 C0.2.1 hdg (by rw [lof_add]; exact k)
theorem fl_lsub {x y : Int} (C0 : FC D cy B p s m meth c own cc nL) (hdg : decode cc pc = .ok (.lsub, 1)) (k : W p l e R s m args below meth c H locs cells slots Q (F0 m (pc + 1) ls (lgv (wl (x - y)) :: rest))) : W p l e R s m args below meth c H locs cells slots Q (F0 m pc ls (lgv y :: lgv x :: rest)) := lv_lsub C0.1 C0.2.1 hdg (by rw [lof_sub]; exact k)
theorem fl_lmul {x y : Int} (C0 : FC D cy B p s m meth c own cc nL) (hdg : decode cc pc = .ok (.lmul, 1)) (k : W p l e R s m args below meth c H locs cells slots Q (F0 m (pc + 1) ls (lgv (wl (x * y)) :: rest))) : W p l e R s m args below meth c H locs cells slots Q (F0 m pc ls (lgv y :: lgv x :: rest)) := lv_lmul C0.1 C0.2.1 hdg (by rw [lof_mul]; exact k)
theorem fl_i2l {x : Int} (C0 : FC D cy B p s m meth c own cc nL) (rx : rg x) (hdg : decode cc pc = .ok (.i2l, 1)) (k : W p l e R s m args below meth c H locs cells slots Q (F0 m (pc + 1) ls (lgv x :: rest))) : W p l e R s m args below meth c H locs cells slots Q (F0 m pc ls (iv x :: rest)) := lv_i2l C0.1 C0.2.1 hdg (of_i2l rx) k
theorem fl_l2i {x : Int} (C0 : FC D cy B p s m meth c own cc nL) (hdg : decode cc pc = .ok (.l2i, 1)) (k : W p l e R s m args below meth c H locs cells slots Q (F0 m (pc + 1) ls (iv (wr x) :: rest))) : W p l e R s m args below meth c H locs cells slots Q (F0 m pc ls (lgv x :: rest)) := lv_l2i C0.1 C0.2.1 hdg (lof_l2i x) k
theorem fl_lcmp {x y : Int} (C0 : FC D cy B p s m meth c own cc nL) (rx : rl x) (ry : rl y) (hdg : decode cc pc = .ok (.lcmp, 1)) (k : W p l e R s m args below meth c H locs cells slots Q (F0 m (pc + 1) ls (iv (cmpl x y) :: rest))) : W p l e R s m args below meth c H locs cells slots Q (F0 m pc ls (lgv y :: lgv x :: rest)) := by
  refine W.lcmp C0.1 C0.2.1 hdg ?_
  have h : lg_cmp (Int64.ofInt x) (Int64.ofInt y) = Int32.ofInt (cmpl x y) := by
    unfold lg_cmp cmpl
    simp only [gt_iff_lt, lof_lt ry rx, lof_lt rx ry, lof_eq rx ry]
    by_cases h1 : y < x
    · rw [if_pos h1, if_neg (by omega), if_neg (by omega)]; rfl
    · rw [if_neg h1]
      by_cases h2 : x < y
      · rw [if_pos h2]
        try rw [if_pos h2]
        try rw [if_neg (by omega)]
        try rfl
      · rw [if_neg h2]
        try rw [if_pos (by omega)]
        try rw [if_neg (by omega)]
        try rw [if_pos (by omega)]
        try rfl
  rw [h]
  exact k
theorem fl_icmp_lt {x y off : Int} {tgt : Nat} (C0 : FC D cy B p s m meth c own cc nL) (rx : rg x) (ry : rg y) (hdg : decode cc pc = .ok (.if_icmp .lt off, 3)) (ht : (pc : Int) + off = (tgt : Int)) (kt : x < y → W p l e R s m args below meth c H locs cells slots Q (F0 m tgt ls rest)) (kf : ¬ x < y → W p l e R s m args below meth c H locs cells slots Q (F0 m (pc + 3) ls rest)) : W p l e R s m args below meth c H locs cells slots Q (F0 m pc ls (iv y :: iv x :: rest)) := lv_icmp_lt C0.1 C0.2.1 hdg ht (fun h => kt ((of_lt rx ry).mp h)) (fun h => kf (fun q => h ((of_lt rx ry).mpr q)))
theorem fl_if_lt {x off : Int} {tgt : Nat} (C0 : FC D cy B p s m meth c own cc nL) (rx : rg x) (hdg : decode cc pc = .ok (.ifCond .lt off, 3)) (ht : (pc : Int) + off = (tgt : Int)) (kt : x < 0 → W p l e R s m args below meth c H locs cells slots Q (F0 m tgt ls rest)) (kf : ¬ x < 0 → W p l e R s m args below meth c H locs cells slots Q (F0 m (pc + 3) ls rest)) : W p l e R s m args below meth c H locs cells slots Q (F0 m pc ls (iv x :: rest)) := by
  have r0 : rg 0 := ⟨by decide, by decide⟩
  exact lv_if_lt C0.1 C0.2.1 hdg ht (fun h => kt ((of_lt rx r0).mp h)) (fun h => kf (fun q => h ((of_lt rx r0).mpr q)))
theorem fl_icmp_ge {x y off : Int} {tgt : Nat} (C0 : FC D cy B p s m meth c own cc nL) (rx : rg x) (ry : rg y) (hdg : decode cc pc = .ok (.if_icmp .ge off, 3)) (ht : (pc : Int) + off = (tgt : Int)) (kt : y ≤ x → W p l e R s m args below meth c H locs cells slots Q (F0 m tgt ls rest)) (kf : ¬ y ≤ x → W p l e R s m args below meth c H locs cells slots Q (F0 m (pc + 3) ls rest)) : W p l e R s m args below meth c H locs cells slots Q (F0 m pc ls (iv y :: iv x :: rest)) := lv_icmp_ge C0.1 C0.2.1 hdg ht (fun h => kt ((of_le ry rx).mp h)) (fun h => kf (fun q => h ((of_le ry rx).mpr q)))
theorem fl_if_ge {x off : Int} {tgt : Nat} (C0 : FC D cy B p s m meth c own cc nL) (rx : rg x) (hdg : decode cc pc = .ok (.ifCond .ge off, 3)) (ht : (pc : Int) + off = (tgt : Int)) (kt : 0 ≤ x → W p l e R s m args below meth c H locs cells slots Q (F0 m tgt ls rest)) (kf : ¬ 0 ≤ x → W p l e R s m args below meth c H locs cells slots Q (F0 m (pc + 3) ls rest)) : W p l e R s m args below meth c H locs cells slots Q (F0 m pc ls (iv x :: rest)) := by
  have r0 : rg 0 := ⟨by decide, by decide⟩
  exact lv_if_ge C0.1 C0.2.1 hdg ht (fun h => kt ((of_le r0 rx).mp h)) (fun h => kf (fun q => h ((of_le r0 rx).mpr q)))
theorem fl_icmp_gt {x y off : Int} {tgt : Nat} (C0 : FC D cy B p s m meth c own cc nL) (rx : rg x) (ry : rg y) (hdg : decode cc pc = .ok (.if_icmp .gt off, 3)) (ht : (pc : Int) + off = (tgt : Int)) (kt : y < x → W p l e R s m args below meth c H locs cells slots Q (F0 m tgt ls rest)) (kf : ¬ y < x → W p l e R s m args below meth c H locs cells slots Q (F0 m (pc + 3) ls rest)) : W p l e R s m args below meth c H locs cells slots Q (F0 m pc ls (iv y :: iv x :: rest)) := lv_icmp_gt C0.1 C0.2.1 hdg ht (fun h => kt ((of_lt ry rx).mp h)) (fun h => kf (fun q => h ((of_lt ry rx).mpr q)))
theorem fl_if_gt {x off : Int} {tgt : Nat} (C0 : FC D cy B p s m meth c own cc nL) (rx : rg x) (hdg : decode cc pc = .ok (.ifCond .gt off, 3)) (ht : (pc : Int) + off = (tgt : Int)) (kt : 0 < x → W p l e R s m args below meth c H locs cells slots Q (F0 m tgt ls rest)) (kf : ¬ 0 < x → W p l e R s m args below meth c H locs cells slots Q (F0 m (pc + 3) ls rest)) : W p l e R s m args below meth c H locs cells slots Q (F0 m pc ls (iv x :: rest)) := by
  have r0 : rg 0 := ⟨by decide, by decide⟩
  exact lv_if_gt C0.1 C0.2.1 hdg ht (fun h => kt ((of_lt r0 rx).mp h)) (fun h => kf (fun q => h ((of_lt r0 rx).mpr q)))
theorem fl_icmp_le {x y off : Int} {tgt : Nat} (C0 : FC D cy B p s m meth c own cc nL) (rx : rg x) (ry : rg y) (hdg : decode cc pc = .ok (.if_icmp .le off, 3)) (ht : (pc : Int) + off = (tgt : Int)) (kt : x ≤ y → W p l e R s m args below meth c H locs cells slots Q (F0 m tgt ls rest)) (kf : ¬ x ≤ y → W p l e R s m args below meth c H locs cells slots Q (F0 m (pc + 3) ls rest)) : W p l e R s m args below meth c H locs cells slots Q (F0 m pc ls (iv y :: iv x :: rest)) := lv_icmp_le C0.1 C0.2.1 hdg ht (fun h => kt ((of_le rx ry).mp h)) (fun h => kf (fun q => h ((of_le rx ry).mpr q)))
theorem fl_if_le {x off : Int} {tgt : Nat} (C0 : FC D cy B p s m meth c own cc nL) (rx : rg x) (hdg : decode cc pc = .ok (.ifCond .le off, 3)) (ht : (pc : Int) + off = (tgt : Int)) (kt : x ≤ 0 → W p l e R s m args below meth c H locs cells slots Q (F0 m tgt ls rest)) (kf : ¬ x ≤ 0 → W p l e R s m args below meth c H locs cells slots Q (F0 m (pc + 3) ls rest)) : W p l e R s m args below meth c H locs cells slots Q (F0 m pc ls (iv x :: rest)) := by
  have r0 : rg 0 := ⟨by decide, by decide⟩
  exact lv_if_le C0.1 C0.2.1 hdg ht (fun h => kt ((of_le rx r0).mp h)) (fun h => kf (fun q => h ((of_le rx r0).mpr q)))
theorem fl_icmp_eq {x y off : Int} {tgt : Nat} (C0 : FC D cy B p s m meth c own cc nL) (rx : rg x) (ry : rg y) (hdg : decode cc pc = .ok (.if_icmp .eq off, 3)) (ht : (pc : Int) + off = (tgt : Int)) (kt : x = y → W p l e R s m args below meth c H locs cells slots Q (F0 m tgt ls rest)) (kf : ¬ x = y → W p l e R s m args below meth c H locs cells slots Q (F0 m (pc + 3) ls rest)) : W p l e R s m args below meth c H locs cells slots Q (F0 m pc ls (iv y :: iv x :: rest)) := lv_icmp_eq C0.1 C0.2.1 hdg ht (fun h => kt ((of_eq rx ry).mp h)) (fun h => kf (fun q => h ((of_eq rx ry).mpr q)))
theorem fl_if_eq {x off : Int} {tgt : Nat} (C0 : FC D cy B p s m meth c own cc nL) (rx : rg x) (hdg : decode cc pc = .ok (.ifCond .eq off, 3)) (ht : (pc : Int) + off = (tgt : Int)) (kt : x = 0 → W p l e R s m args below meth c H locs cells slots Q (F0 m tgt ls rest)) (kf : ¬ x = 0 → W p l e R s m args below meth c H locs cells slots Q (F0 m (pc + 3) ls rest)) : W p l e R s m args below meth c H locs cells slots Q (F0 m pc ls (iv x :: rest)) := by
  have r0 : rg 0 := ⟨by decide, by decide⟩
  exact lv_if_eq C0.1 C0.2.1 hdg ht (fun h => kt ((of_eq rx r0).mp h)) (fun h => kf (fun q => h ((of_eq rx r0).mpr q)))
theorem fl_icmp_ne {x y off : Int} {tgt : Nat} (C0 : FC D cy B p s m meth c own cc nL) (rx : rg x) (ry : rg y) (hdg : decode cc pc = .ok (.if_icmp .ne off, 3)) (ht : (pc : Int) + off = (tgt : Int)) (kt : ¬ x = y → W p l e R s m args below meth c H locs cells slots Q (F0 m tgt ls rest)) (kf : x = y → W p l e R s m args below meth c H locs cells slots Q (F0 m (pc + 3) ls rest)) : W p l e R s m args below meth c H locs cells slots Q (F0 m pc ls (iv y :: iv x :: rest)) := lv_icmp_ne C0.1 C0.2.1 hdg ht (fun h => kt (fun q => h ((of_eq rx ry).mpr q))) (fun h => kf (by first | exact (of_eq rx ry).mp h | exact (of_eq rx ry).mp (Classical.not_not.mp h)))
theorem fl_if_ne {x off : Int} {tgt : Nat} (C0 : FC D cy B p s m meth c own cc nL) (rx : rg x) (hdg : decode cc pc = .ok (.ifCond .ne off, 3)) (ht : (pc : Int) + off = (tgt : Int)) (kt : ¬ x = 0 → W p l e R s m args below meth c H locs cells slots Q (F0 m tgt ls rest)) (kf : x = 0 → W p l e R s m args below meth c H locs cells slots Q (F0 m (pc + 3) ls rest)) : W p l e R s m args below meth c H locs cells slots Q (F0 m pc ls (iv x :: rest)) := by
  have r0 : rg 0 := ⟨by decide, by decide⟩
  exact lv_if_ne C0.1 C0.2.1 hdg ht (fun h => kt (fun q => h ((of_eq rx r0).mpr q))) (fun h => kf (by first | exact (of_eq rx r0).mp h | exact (of_eq rx r0).mp (Classical.not_not.mp h)))
theorem fl_tableOut {dflt lo hi : Int} {offs : Array Int} {len : Nat} {x : Int} {tgt : Nat} (C0 : FC D cy B p s m meth c own cc nL) (rx : rg x) (hdg : decode cc pc = .ok (.tableswitch dflt lo hi offs, len)) (h : x < lo ∨ hi < x) (ht : (pc : Int) + dflt = (tgt : Int)) (k : W p l e R s m args below meth c H locs cells slots Q (F0 m tgt ls rest)) : W p l e R s m args below meth c H locs cells slots Q (F0 m pc ls (iv x :: rest)) := lv_tableOut C0.1 C0.2.1 hdg (by rw [fl_tI rx]; exact h) ht k
theorem fl_tableIn {dflt lo hi : Int} {offs : Array Int} {len : Nat} {x v off : Int} {tgt : Nat} (C0 : FC D cy B p s m meth c own cc nL) (rx : rg x) (hdg : decode cc pc = .ok (.tableswitch dflt lo hi offs, len)) (hv : x = v) (h : lo ≤ v ∧ v ≤ hi) (ho : offs[(v - lo).toNat]? = some off) (ht : (pc : Int) + off = (tgt : Int)) (k : W p l e R s m args below meth c H locs cells slots Q (F0 m tgt ls rest)) : W p l e R s m args below meth c H locs cells slots Q (F0 m pc ls (iv x :: rest)) := by
  subst hv
  exact lv_tableIn C0.1 C0.2.1 hdg (by rw [fl_tI rx]; omega) (by rw [fl_tI rx]; omega) (by rw [fl_tI rx]; exact ho) ht k
theorem fl_iinc {i k : Nat} {n x : Int} {lv lv' : List (Nat × Value)} (C0 : FC D cy B p s m meth c own cc nL) (hdg : decode cc pc = .ok (.iinc i n, 3)) (h : lv_has ls nL lv) (hk : lv[k]? = some (i, iv x)) (hn : i < nL) (hl : (i, iv (wr (x + n))) :: lv.filter (fun q => !(q.1 == i) && !(q.1 + 1 == i && q.2.category == 2)) = lv')
    (kk : ∀ ls' : Array Slot, lv_has ls' nL lv' → W p l e R s m args below meth c H locs cells slots Q (F0 m (pc + 3) ls' rest)) : W p l e R s m args below meth c H locs cells slots Q (F0 m pc ls rest) := lv_iinc (v := Int32.ofInt (wr (x + n))) C0.1 C0.2.1 hdg h hk (of_add x n) hn hl kk
/-- the ends -/
abbrev QI (D : va_G) (cy : Nat → ClassId) (B : Nat) (L : List Nat) (K : KT) (P : PT) (J : IT) (res : Int × IT) : Array Value → State → Outcome → State → Prop := va_Qi (fun (r : Int32) (_ : Unit) => r = Int32.ofInt res.1 ∧ rg res.1) (fun _ t => FW D cy B L K P J res.2 t) (fun q => B ≤ q)
abbrev QV (D : va_G) (cy : Nat → ClassId) (B : Nat) (L : List Nat) (K : KT) (P : PT) (J : IT) (res : IT) : Array Value → State → Outcome → State → Prop := va_Qv (fun (_ : Unit) => True) (fun _ t => FW D cy B L K P J res t) (fun q => B ≤ q)
abbrev QR (D : va_G) (cy : Nat → ClassId) (B : Nat) (L : List Nat) (K : KT) (P : PT) (J : IT) (res : Nat × IT) : Array Value → State → Outcome → State → Prop := va_Qr (fun (_ : Unit) => True) (fun _ a t => a = res.1 ∧ FW D cy B L K P J res.2 t) (fun q => B ≤ q)
theorem FS.world (hF : FS D cy B L K P J s.heap I H locs) (hFK : FK D cy s) (hFZ : FZ cy B s s.heap) {t : State} (ht : t.heap = H) (hW : s.WarmedH t.vm) : FW D cy B L K P J I t := by
  subst ht
  exact ⟨⟨hF.1, hF.2.1, va_S.rf, hF.2.2.2.1, hF.2.2.2.2.1, Nat.le_trans hF.2.2.2.2.2.1 hF.2.2.1.1, hF.2.2.2.2.2.2⟩, hFK.moved hW, (hFZ.kept hF.2.2.1.2.1).moved hW.alike⟩
theorem fl_iret {r : Int} {res : Int × IT} (C0 : FC D cy B p s m meth c own cc nL) (hF : FS D cy B L K P J s.heap I H locs) (hr : meth.sig.returnType = some .int) (rr : rg r) (he : (r, I) = res) (hdg : decode cc pc = .ok (.ireturn, 1)) : W p l e R s m args below meth c H locs cells slots (MQ below (QI D cy B L K P J res) args s cells slots (fun q => B ≤ q)) (F0 m pc ls [iv r]) := by
  subst he
  obtain ⟨hx, hb, -, -, hlocks, hFK, hFZ⟩ := C0
  exact W.iret hx hb hr (fun t ht hW => ⟨⟨_, (), rfl, ⟨rfl, rr⟩, hF.world hFK hFZ ht hW⟩, hF.2.2.1.F ht⟩) (fun q hq => hF.2.2.1.2.2 q hq) hdg (hlocks := hlocks)
theorem fl_zret {r : Int} {res : Int × IT} (C0 : FC D cy B p s m meth c own cc nL) (hF : FS D cy B L K P J s.heap I H locs) (hr : meth.sig.returnType = some .boolean) (rr : rg r) (h01 : r = 0 ∨ r = 1) (he : (r, I) = res) (hdg : decode cc pc = .ok (.ireturn, 1)) : W p l e R s m args below meth c H locs cells slots (MQ below (QI D cy B L K P J res) args s cells slots (fun q => B ≤ q)) (F0 m pc ls [iv r]) := by
  subst he
  obtain ⟨hx, hb, -, -, hlocks, hFK, hFZ⟩ := C0
  exact W.zret hx hb hr (by rcases h01 with rfl | rfl <;> rfl) (fun t ht hW => ⟨⟨_, (), rfl, ⟨rfl, rr⟩, hF.world hFK hFZ ht hW⟩, hF.2.2.1.F ht⟩) (fun q hq => hF.2.2.1.2.2 q hq) hdg (hlocks := hlocks)
theorem fl_vret {res : IT} (C0 : FC D cy B p s m meth c own cc nL) (hF : FS D cy B L K P J s.heap I H locs) (hr : meth.sig.returnType = none) (he : I = res) (hdg : decode cc pc = .ok (.return_, 1)) : W p l e R s m args below meth c H locs cells slots (MQ below (QV D cy B L K P J res) args s cells slots (fun q => B ≤ q)) (F0 m pc ls []) := by
  subst he
  obtain ⟨hx, hb, -, -, hlocks, hFK, hFZ⟩ := C0
  exact W.vret hx hb hr (fun t ht hW => ⟨⟨(), rfl, trivial, hF.world hFK hFZ ht hW⟩, hF.2.2.1.F ht⟩) (fun q hq => hF.2.2.1.2.2 q hq) hdg (hlocks := hlocks)
theorem fl_aret {a : Nat} {res : Nat × IT} {C : String} (C0 : FC D cy B p s m meth c own cc nL) (hF : FS D cy B L K P J s.heap I H locs) (hr : meth.sig.returnType = some (.object C)) (he : (a, I) = res) (hdg : decode cc pc = .ok (.areturn, 1)) : W p l e R s m args below meth c H locs cells slots (MQ below (QR D cy B L K P J res) args s cells slots (fun q => B ≤ q)) (F0 m pc ls [.ref a]) := by
  subst he
  obtain ⟨hx, hb, -, -, hlocks, hFK, hFZ⟩ := C0
  exact W.aret hx hb hr (Or.inl ⟨_, rfl⟩) (Or.inr ⟨_, rfl⟩) (fun t ht hW => ⟨⟨(), _, rfl, trivial, rfl, hF.world hFK hFZ ht hW⟩, hF.2.2.1.F ht⟩) (fun q hq => hF.2.2.1.2.2 q hq) hdg (hlocks := hlocks)
/-- the start of a walk -/
theorem FW.start {U : State} (h : FW D cy B L K P J I U) : FS D cy B L K P J U.heap I U.heap [] := h.1
theorem FW.blind {av : List Value} : FrameBlind (va_Pc av (FW D cy B L K P J I)) := fun a U g mk h => ⟨h.1, h.2.1, FK.same (s := U) (U := U.calling g mk a) rfl h.2.2.1, FZ.moved (u := U) (U := U.calling g mk a) (Vm.Alike.refl U.vm) h.2.2.2⟩
theorem FC.ofB {y : MethodName} {S : Spec} {ret : Option FieldType} {s₁ : State} (B0 : BodyLoose p l y S cc nL ret e s m args below meth c s₁) (hml : c.maxLocals = nL) (hFK : FK D cy s) (hFZ : FZ cy B s s.heap) : FC D cy B p s m meth c y.cls cc nL := ⟨B0.exec, B0.bytes, hml, findClass_of_methodNamed B0.named, B0.notSynchronized, hFK, hFZ⟩
end FI
section FCalls
variable {p : Program} {l : Launch} {e : Env} {R : Room} {s : State} {m : MethodId} {args : Array Value} {below : List Frame} {meth : Method} {c : Code} {H : Heap} {locs : List Loc} {cells slots : Nat} {Q : State → Prop}
variable {D : va_G} {cy : Nat → ClassId} {B : Nat} {L : List Nat} {K : KT} {P : PT} {J I : IT} {own : String} {cc : ByteArray} {nL pc : Nat} {ls : Array Slot} {As rest st0 : List Value}
variable {y : MethodName} {bytes : ByteArray} {maxL idx mc ms : Nat} {ret : Option FieldType} {rm : Room} {Qc : Array Value → State → Outcome → State → Prop} {b ci co n : Nat} {C host : String} {T : u_T} {ty : Nat → FieldType}
theorem FS.pre (hF : FS D cy B L K P J s.heap I H locs) (hFK : FK D cy s) (hFZ : FZ cy B s s.heap) (av : List Value) : ∀ U : State, U.heap = H → s.WarmedH U.vm → va_Pc av (FW D cy B L K P J I) av.toArray U := fun _ hU hW => ⟨rfl, hF.world hFK hFZ hU hW⟩
theorem FS.recv (hC : Cls ci C T ty) (hFK : FK D cy s) (hF : FS D cy B L K P J s.heap I H locs) (hkb : K b ≠ 0) (hlt : K b < 100) (hci : kci (K b) = ci) : ∃ cell : Cell, H[b]? = some cell ∧ cell.vm.isStatics = false ∧ s.vm.findClass C = some cell.cls := by
  obtain ⟨k0, hk0⟩ := hF.get hkb
  rw [fcell_obj hlt hci] at hk0
  exact va_recv hFK.1 hF.1 hC.1 hk0
theorem gi_1 {w : Cond} (h : w ∈ AW) (g : goodWord w = true) : GoodIn AW [w] := fun x hx => by
  rw [List.mem_singleton.mp hx]
  exact ⟨h, good_of_word g⟩
theorem gi_c {w : Cond} {ws : List Cond} (h : w ∈ AW) (g : goodWord w = true) (t : GoodIn AW ws) : GoodIn AW (w :: ws) := fun x hx => by
  rcases List.mem_cons.mp hx with rfl | hx
  · exact ⟨h, good_of_word g⟩
  · exact t x hx
abbrev rooms (R rm : Room) (maxL : Nat) : Prop := rm.frames + 1 ≤ R.frames ∧ 8 + (maxL + 11) + rm.locals ≤ R.locals
abbrev plainM (y : MethodName) (n : Nat) : Prop := y.cls ≠ "java/lang/invoke/MethodHandle" ∧ y.cls ≠ "java/lang/invoke/VarHandle" ∧ (parseMethodDescriptor y.desc).map (fun d => d.parameters.length) = some n
theorem fl_runV (C0 : FC D cy B p s m meth c own cc nL) (hF : FS D cy B L K P J s.heap I H locs) (hsz : ls.size = nL) (hC : Cls ci C T ty) (h : K b = co) (ho : cok co ci = true)
    (hM : Met l y [.code y bytes maxL ret] rm (va_Pc (.ref b :: As) (FW D cy B L K P J I)) Qc mc ms (fun q => B ≤ q)) (w1 : Cond.methodLink own idx y ∈ AW) (w2 : Cond.instanceMethod y ∈ AW) (w3 : Cond.selects C y y ∈ AW) (w4 : Cond.initialized C ∈ AW) (w5 : Cond.code y bytes maxL ret ∈ AW)
    (hyC : y.cls = C) (hn : As.length = n) (hd : plainM y n) (hrc : rm.cells = mc) (hrs : rm.slots = ms) (hR : rooms R rm maxL) (hst : st0 = As.reverse ++ .ref b :: rest) (hW : (rest.map fun v => v.category).sum ≤ 8) (hdg : decode cc pc = .ok (.invokevirtual idx, 3)) (hf : cells + mc ≤ R.cells ∧ slots + ms ≤ R.slots) :
    va_Run p l e R s m args below meth c H locs cells slots mc ms (F0 m pc ls st0) rest (Qc (Value.ref b :: As).toArray) (fun q => B ≤ q) := by
  obtain ⟨h1, h2, h3⟩ := cok_of ho
  subst h
  obtain ⟨hx, hb, hml, hown, -, hFK, hFZ⟩ := C0
  exact va_runV (Ts := AW) ⟨hx, hb, hml, hown, hFK.use⟩ hM (cwV n hFK.use (gi_c w1 rfl (gi_c w2 rfl (gi_c w3 rfl (gi_c w4 rfl (gi_1 w5 rfl))))) rfl hrc hrs ⟨hyC, hd⟩ hR) ⟨FW.blind, hF.recv hC hFK h1 h2 h3, hF.pre hFK hFZ _⟩ rfl hn hsz hst (lv_room hW) hdg hf
theorem fl_runN (C0 : FC D cy B p s m meth c own cc nL) (hF : FS D cy B L K P J s.heap I H locs) (hsz : ls.size = nL) (hC : Cls ci C T ty) (h : K b = co) (ho : cok co ci = true)
    (hM : Met l y [.code y bytes maxL ret] rm (va_Pc (.ref b :: As) (FW D cy B L K P J I)) Qc mc ms (fun q => B ≤ q)) (w1 : Cond.methodLinkNest own idx y host ∈ AW) (w2 : Cond.instanceMethod y ∈ AW) (w3 : Cond.selects C y y ∈ AW) (w4 : Cond.initialized y.cls ∈ AW) (w5 : Cond.code y bytes maxL ret ∈ AW)
    (hn : As.length = n) (hd : plainM y n) (hrc : rm.cells = mc) (hrs : rm.slots = ms) (hR : rooms R rm maxL) (hst : st0 = As.reverse ++ .ref b :: rest) (hW : (rest.map fun v => v.category).sum ≤ 8) (hdg : decode cc pc = .ok (.invokevirtual idx, 3)) (hf : cells + mc ≤ R.cells ∧ slots + ms ≤ R.slots) :
    va_Run p l e R s m args below meth c H locs cells slots mc ms (F0 m pc ls st0) rest (Qc (Value.ref b :: As).toArray) (fun q => B ≤ q) := by
  obtain ⟨h1, h2, h3⟩ := cok_of ho
  subst h
  obtain ⟨hx, hb, hml, hown, -, hFK, hFZ⟩ := C0
  exact va_runVN (Ts := AW) ⟨hx, hb, hml, hown, hFK.use⟩ hM ⟨va_cnB n hFK.use (gi_1 w5 rfl) rfl hrc hrs (hFK.2.1 _ w1) (hFK.use _ w4) hd hR, hFK.use _ w2, hFK.use _ w3⟩ ⟨FW.blind, hF.recv hC hFK h1 h2 h3, hF.pre hFK hFZ _⟩ rfl hn hsz hst (lv_room hW) hdg hf
theorem fl_runS (C0 : FC D cy B p s m meth c own cc nL) (hF : FS D cy B L K P J s.heap I H locs) (hsz : ls.size = nL)
    (hM : Met l y [.code y bytes maxL ret] rm (va_Pc As (FW D cy B L K P J I)) Qc mc ms (fun q => B ≤ q)) (w1 : Cond.methodLink own idx y ∈ AW) (w2 : Cond.static y ∈ AW) (w4 : Cond.initialized own ∈ AW) (w5 : Cond.code y bytes maxL ret ∈ AW)
    (hyC : y.cls = own) (hn : As.length = n) (hd : plainM y n) (hrc : rm.cells = mc) (hrs : rm.slots = ms) (hR : rooms R rm maxL) (hst : st0 = As.reverse ++ rest) (hW : (rest.map fun v => v.category).sum ≤ 8) (hdg : decode cc pc = .ok (.invokestatic idx, 3)) (hf : cells + mc ≤ R.cells ∧ slots + ms ≤ R.slots) :
    va_Run p l e R s m args below meth c H locs cells slots mc ms (F0 m pc ls st0) rest (Qc As.toArray) (fun q => B ≤ q) := by
  obtain ⟨hx, hb, hml, hown, -, hFK, hFZ⟩ := C0
  exact va_runS (Ts := AW) ⟨hx, hb, hml, hown, hFK.use⟩ hM (cwS n hFK.use (gi_c w1 rfl (gi_c w2 rfl (gi_c w4 rfl (gi_1 w5 rfl)))) rfl hrc hrs ⟨hyC, hd⟩ hR) ⟨FW.blind, hF.pre hFK hFZ _⟩ rfl hn hsz hst (lv_room hW) hdg hf
theorem FS.after {I' : IT} {t : State} {H1 : Heap} {locs1 : List Loc} (hF : FS D cy B L K P J s.heap I H locs) (ht : t.heap = H1) (hS : va_S (fun q => B ≤ q) s.heap H1 locs1) (hw : FW D cy B L K P J I' t) : FS D cy B L K P J s.heap I' H1 locs1 := by
  subst ht
  exact ⟨hw.1.1, hw.1.2.1, hS, hF.2.2.2.1, hF.2.2.2.2.1, hF.2.2.2.2.2.1, hw.1.2.2.2.2.2.2⟩
theorem fl_ri {r : Int} {I' : IT} {a : Array Value} (hF : FS D cy B L K P J s.heap I H locs) (hr : va_Run p l e R s m args below meth c H locs cells slots mc ms (F0 m pc ls st0) rest (QI D cy B L K P J (r, I') a) (fun q => B ≤ q))
    (kk : ∀ (H1 : Heap) (locs1 : List Loc), FS D cy B L K P J s.heap I' H1 locs1 → rg r → W p l e R s m args below meth c H1 locs1 (cells + mc) (slots + ms) Q (F0 m (pc + 3) ls (iv r :: rest))) : W p l e R s m args below meth c H locs cells slots Q (F0 m pc ls st0) :=
  va_calli hr hF.2.2.1 (fun _ _ h => h) (fun _ h => h) (fun r0 u t H1 locs1 ht _ hp hw _ _ hS => by obtain ⟨rfl, hp⟩ := hp; exact kk H1 locs1 (hF.after ht hS hw) hp)
theorem fl_rv {res : IT} {a : Array Value} (hF : FS D cy B L K P J s.heap I H locs) (hr : va_Run p l e R s m args below meth c H locs cells slots mc ms (F0 m pc ls st0) rest (QV D cy B L K P J res a) (fun q => B ≤ q))
    (kk : ∀ (H1 : Heap) (locs1 : List Loc), FS D cy B L K P J s.heap res H1 locs1 → W p l e R s m args below meth c H1 locs1 (cells + mc) (slots + ms) Q (F0 m (pc + 3) ls rest)) : W p l e R s m args below meth c H locs cells slots Q (F0 m pc ls st0) :=
  va_callv hr hF.2.2.1 (fun _ _ h => h) (fun _ h => h) (fun u t H1 locs1 ht _ hp hw _ _ hS => kk H1 locs1 (hF.after ht hS hw))
theorem fl_rr {r : Nat} {I' : IT} {a : Array Value} (hF : FS D cy B L K P J s.heap I H locs) (hr : va_Run p l e R s m args below meth c H locs cells slots mc ms (F0 m pc ls st0) rest (QR D cy B L K P J (r, I') a) (fun q => B ≤ q))
    (kk : ∀ (H1 : Heap) (locs1 : List Loc), FS D cy B L K P J s.heap I' H1 locs1 → W p l e R s m args below meth c H1 locs1 (cells + mc) (slots + ms) Q (F0 m (pc + 3) ls (.ref r :: rest))) : W p l e R s m args below meth c H locs cells slots Q (F0 m pc ls st0) :=
  va_callr hr hF.2.2.1 (fun _ _ h => h) (fun _ h => h) (fun u ra t H1 locs1 ht _ hp hw _ _ hS => by obtain ⟨rfl, hw⟩ := hw; exact kk H1 locs1 (hF.after ht hS hw))
end FCalls
end
section
/-! the pieces that the methods' own functions are made of -/
def ck {α : Type} (c : Prop) [Decidable c] (x : Option α) : Option α := if c then x else none
def bnd {α β : Type} (v : β) (f : β → Option α) : Option α := f v
def bp {α β : Type} (x : Option β) (f : β → Option α) : Option α := match x with | none => none | some r => f r
def bi {α β : Type} (x : Option (β × IT)) (f : β → IT → Option α) : Option α := match x with | none => none | some q => f q.1 q.2
theorem ck_f {α : Type} {c : Prop} [Decidable c] {x : Option α} {r : α} (h : ck c x = some r) : c ∧ x = some r := by
  unfold ck at h
  split at h
  · exact ⟨‹c›, h⟩
  · cases h
theorem bnd_f {α β : Type} {v : β} {f : β → Option α} {r : α} (h : bnd v f = some r) : ∃ z, v = z ∧ f z = some r := ⟨v, rfl, h⟩
theorem bp_f {α β : Type} {x : Option β} {f : β → Option α} {r : α} (h : bp x f = some r) : ∃ q, x = some q ∧ f q = some r := by
  cases x with
  | none => cases h
  | some q => exact ⟨q, rfl, h⟩
theorem bi_f {α β : Type} {x : Option (β × IT)} {f : β → IT → Option α} {r : α} (h : bi x f = some r) : ∃ (q : β) (I' : IT), x = some (q, I') ∧ f q I' = some r := by
  cases x with
  | none => cases h
  | some q => exact ⟨q.1, q.2, rfl, h⟩
theorem ck_t {α : Type} {c : Prop} [Decidable c] {x : Option α} (h : c) : ck c x = x := if_pos h
theorem bnd_e {α β : Type} (v : β) (f : β → Option α) : bnd v f = f v := rfl
theorem bp_s {α β : Type} (q : β) (f : β → Option α) : bp (some q) f = f q := rfl
theorem bi_s {α β : Type} (q : β) (I : IT) (f : β → IT → Option α) : bi (some (q, I)) f = f q I := rfl
def FU : Nat := 1000
/-- the codes of what the objects' references lead to -/
def tt (c k : Nat) : Nat := match c with
  | 1 => if k = 1 then 3 else if k = 3 then 4 else 0
  | 2 => if k = 0 then 5 else if k = 1 then 5 else 0
  | 3 => if k = 2 then 4 else if k = 3 then 12 else if k = 4 then 116 else 0
  | 4 => if k = 0 then 164 else if k = 1 then 164 else 0
  | 5 => if k = 0 then 132 else 0
  | 6 => if k = 0 then 132 else if k = 1 then 132 else if k = 2 then 132 else if k = 3 then 292 else if k = 4 then 293 else 0
  | 7 => if k = 0 then 5 else if k = 1 then 5 else 0
  | 8 => if k = 0 then 4 else if k = 1 then 5 else if k = 2 then 2 else if k = 3 then 10 else if k = 4 then 11 else if k = 5 then 6 else if k = 6 then 132 else if k = 7 then 132 else if k = 8 then 293 else if k = 9 then 168 else 0
  | 9 => if k = 1 then 368 else if k = 2 then 4388 else if k = 3 then 4388 else if k = 4 then 392 else if k = 5 then 1268 else if k = 7 then 124 else if k = 8 then 124 else if k = 9 then 124 else if k = 10 then 124 else if k = 11 then 388 else if k = 12 then 196 else if k = 14 then 340 else if k = 15 then 340 else if k = 16 then 340 else if k = 17 then 340 else if k = 18 then 340 else if k = 19 then 340 else if k = 20 then 340 else if k = 21 then 132 else if k = 22 then 132 else if k = 28 then 132 else if k = 29 then 132 else if k = 32 then 132 else if k = 33 then 340 else if k = 34 then 132 else if k = 35 then 132 else if k = 36 then 132 else if k = 37 then 168 else if k = 24 then 293 else 0
  | _ => 0
def WT (K : KT) (P : PT) : Prop := ∀ a k, tt (K a) k ≠ 0 → K (P a k) = tt (K a) k
theorem wt_at {K : KT} {P : PT} (h : WT K P) {a c k t : Nat} (hk : K a = c) (ht : (tt c k == t && t != 0) = true) : K (P a k) = t := by
  simp only [Bool.and_eq_true, beq_iff_eq, bne_iff_ne] at ht
  have h1 := h a k
  rw [hk] at h1
  rw [h1 (by rw [ht.1]; exact ht.2), ht.1]
section FG
variable {p : Program} {l : Launch} {e : Env} {R : Room} {s : State} {m : MethodId} {args : Array Value} {below : List Frame} {meth : Method} {c : Code} {H : Heap} {locs : List Loc} {cells slots : Nat} {Q : State → Prop}
variable {D : va_G} {cy : Nat → ClassId} {B : Nat} {L : List Nat} {K : KT} {P : PT} {J I : IT} {own : String} {cc : ByteArray} {nL pc : Nat} {ls : Array Slot} {rest : List Value} {H0 : Heap}
variable {ci k a idx co t : Nat} {C nm ds host : String} {T : u_T} {ty : Nat → FieldType} {x : Int}
theorem FS.rI (hF : FS D cy B L K P J H0 I H locs) (a k : Nat) : rg (I a k) := hF.2.2.2.2.2.2 a k
theorem FS.ne0 (hF : FS D cy B L K P J H0 I H locs) {a : Nat} (h : K a ≠ 0) : 1 < a := by
  obtain ⟨k, hk⟩ := hF.get h
  have h1 : B ≤ a := hF.2.1.2 k _ hk
  have h2 := hF.2.2.2.2.1
  omega
theorem fl_geti (hC : Cls ci C T ty) (C0 : FC D cy B p s m meth c own cc nL) (hF : FS D cy B L K P J H0 I H locs) (h : K a = co) (ho : gok co ci k false = true) (hT : (T k).2.1 = nm ∧ (T k).2.2.1 = ds) (hw : Cond.fieldLink own idx (T k).1 nm ds ∈ AW) (hdg : decode cc pc = .ok (.getfield idx, 3))
    (kk : W p l e R s m args below meth c H locs cells slots Q (F0 m (pc + 3) ls (iv (I a k) :: rest))) : W p l e R s m args below meth c H locs cells slots Q (F0 m pc ls (.ref a :: rest)) := by
  obtain ⟨h1, h2, h3, h4, h5⟩ := gok_of ho
  subst h
  exact fl_get hC C0 hF h1 h2 h3 h4 (by simp [fval, h5]) hT hw hdg kk
theorem fl_getiN (hC : Cls ci C T ty) (C0 : FC D cy B p s m meth c own cc nL) (hF : FS D cy B L K P J H0 I H locs) (h : K a = co) (ho : gok co ci k false = true) (hT : (T k).2.1 = nm ∧ (T k).2.2.1 = ds) (hw : Cond.fieldLinkNest own idx (T k).1 nm ds host ∈ AW) (hdg : decode cc pc = .ok (.getfield idx, 3))
    (kk : W p l e R s m args below meth c H locs cells slots Q (F0 m (pc + 3) ls (iv (I a k) :: rest))) : W p l e R s m args below meth c H locs cells slots Q (F0 m pc ls (.ref a :: rest)) := by
  obtain ⟨h1, h2, h3, h4, h5⟩ := gok_of ho
  subst h
  exact fl_getN hC C0 hF h1 h2 h3 h4 (by simp [fval, h5]) hT hw hdg kk
theorem fl_getr (hC : Cls ci C T ty) (C0 : FC D cy B p s m meth c own cc nL) (hF : FS D cy B L K P J H0 I H locs) (h : K a = co) (ho : gok co ci k true = true) (hz : K (P a k) = t) (ht : (t != 0) = true) (hT : (T k).2.1 = nm ∧ (T k).2.2.1 = ds) (hw : Cond.fieldLink own idx (T k).1 nm ds ∈ AW) (hdg : decode cc pc = .ok (.getfield idx, 3))
    (kk : W p l e R s m args below meth c H locs cells slots Q (F0 m (pc + 3) ls (.ref (P a k) :: rest))) : W p l e R s m args below meth c H locs cells slots Q (F0 m pc ls (.ref a :: rest)) := by
  obtain ⟨h1, h2, h3, h4, h5⟩ := gok_of ho
  subst h
  have h6 : 1 < P a k := hF.ne0 (by rw [hz]; exact bne_iff_ne.mp ht)
  exact fl_get hC C0 hF h1 h2 h3 h4 (by simp only [fval, h5, if_true, rfo_ne h6]) hT hw hdg kk
theorem fl_getrN (hC : Cls ci C T ty) (C0 : FC D cy B p s m meth c own cc nL) (hF : FS D cy B L K P J H0 I H locs) (h : K a = co) (ho : gok co ci k true = true) (hz : K (P a k) = t) (ht : (t != 0) = true) (hT : (T k).2.1 = nm ∧ (T k).2.2.1 = ds) (hw : Cond.fieldLinkNest own idx (T k).1 nm ds host ∈ AW) (hdg : decode cc pc = .ok (.getfield idx, 3))
    (kk : W p l e R s m args below meth c H locs cells slots Q (F0 m (pc + 3) ls (.ref (P a k) :: rest))) : W p l e R s m args below meth c H locs cells slots Q (F0 m pc ls (.ref a :: rest)) := by
  obtain ⟨h1, h2, h3, h4, h5⟩ := gok_of ho
  subst h
  have h6 : 1 < P a k := hF.ne0 (by rw [hz]; exact bne_iff_ne.mp ht)
  exact fl_getN hC C0 hF h1 h2 h3 h4 (by simp only [fval, h5, if_true, rfo_ne h6]) hT hw hdg kk
theorem fl_puti (hC : Cls ci C T ty) (C0 : FC D cy B p s m meth c own cc nL) (hF : FS D cy B L K P J H0 I H locs) (h : K a = co) (ho : gok co ci k false = true) (hrx : rg x) (hT : (T k).2.2.2 = false ∧ (T k).2.1 = nm ∧ (T k).2.2.1 = "I") (hw : Cond.fieldLink own idx (T k).1 nm "I" ∈ AW) (hdg : decode cc pc = .ok (.putfield idx, 3))
    (kk : ∀ (H1 : Heap) (locs1 : List Loc), FS D cy B L K P J H0 (up I a k x) H1 locs1 → W p l e R s m args below meth c H1 locs1 cells slots Q (F0 m (pc + 3) ls rest)) : W p l e R s m args below meth c H locs cells slots Q (F0 m pc ls (iv x :: .ref a :: rest)) := by
  obtain ⟨h1, h2, h3, h4, h5⟩ := gok_of ho
  subst h
  exact fl_put hC C0 hF h1 h2 h3 h4 h5 hrx hT.1 ⟨hT.2.1, hT.2.2, rfl⟩ hw hdg kk
theorem fl_putiN (hC : Cls ci C T ty) (C0 : FC D cy B p s m meth c own cc nL) (hF : FS D cy B L K P J H0 I H locs) (h : K a = co) (ho : gok co ci k false = true) (hrx : rg x) (hT : (T k).2.2.2 = false ∧ (T k).2.1 = nm ∧ (T k).2.2.1 = "I") (hw : Cond.fieldLinkNest own idx (T k).1 nm "I" host ∈ AW) (hdg : decode cc pc = .ok (.putfield idx, 3))
    (kk : ∀ (H1 : Heap) (locs1 : List Loc), FS D cy B L K P J H0 (up I a k x) H1 locs1 → W p l e R s m args below meth c H1 locs1 cells slots Q (F0 m (pc + 3) ls rest)) : W p l e R s m args below meth c H locs cells slots Q (F0 m pc ls (iv x :: .ref a :: rest)) := by
  obtain ⟨h1, h2, h3, h4, h5⟩ := gok_of ho
  subst h
  exact fl_putN hC C0 hF h1 h2 h3 h4 h5 hrx hT.1 ⟨hT.2.1, hT.2.2, rfl⟩ hw hdg kk
end FG
/-- a method's walk, from its entry: the contract -/
theorem fl_body {l : Launch} {D : va_G} {cy : Nat → ClassId} {B : Nat} {L : List Nat} {K : KT} {P : PT} {J I : IT} {y : MethodName} {cc : ByteArray} {maxL : Nat} {ret : Option FieldType} {rm : Room} {Qc : Array Value → State → Outcome → State → Prop} {mc ms : Nat} {own : String} (av : List Value) (hy : plainName y.cls = true) (ho : y.cls = own) (hn : (lg_sl av).length ≤ maxL)
    (body : ∀ (p : Program) (e : Env) (s : State) (m : MethodId) (args : Array Value) (below : List Frame) (meth : Method) (c : Code) (ls : Array Slot), FC D cy B p s m meth c own cc maxL → meth.sig.returnType = ret → FS D cy B L K P J s.heap I s.heap [] → lv_has ls maxL (lv_args 0 av) →
      W p l e rm s m args below meth c s.heap [] 0 0 (MQ below Qc args s mc ms (fun q => B ≤ q)) (F0 m 0 ls [])) : Met l y [.code y cc maxL ret] rm (va_Pc av (FW D cy B L K P J I)) Qc mc ms (fun q => B ≤ q) := by
  refine Met.ofW (cc := cc) (maxL := maxL) (ret := ret) hy rfl ?_
  intro p e s m args below meth c s₁ B0 hml hv
  obtain ⟨rfl, hF, hFK, hFZ⟩ := hv
  subst ho
  have hl := lv_entry av (n := maxL) hn
  rw [lg_entry_eq]
  generalize (lg_sl av ++ List.replicate (maxL - (lg_sl av).length) Slot.unset).toArray = ls at hl ⊢
  exact body p e s m _ below meth c ls (FC.ofB B0 hml hFK hFZ) B0.returns hF hl
theorem rgk (n : Int) (h : (decide (-2147483648 ≤ n) && decide (n < 2147483648)) = true) : rg n := by
  simp only [Bool.and_eq_true, decide_eq_true_eq] at h
  exact h
end
section
theorem aw_of0 {w : Cond} {i : Nat} (h : (k2_sels lw_privs)[i]? = some w) (hm : mvW w = true) : w ∈ AW := List.mem_filter.mpr ⟨List.mem_append_left _ (List.mem_of_getElem? h), hm⟩
theorem aw_of1 {w : Cond} {i : Nat} (h : tables_1_1[i]? = some w) (hm : mvW w = true) : w ∈ AW := List.mem_filter.mpr ⟨List.mem_append_right _ (show w ∈ tables_1_1 ++ (tables_1_2 ++ (tables_1_3 ++ (tables_1_4 ++ tables_1_5))) from (List.mem_append_left _ (List.mem_of_getElem? h))), hm⟩
theorem aw_of2 {w : Cond} {i : Nat} (h : tables_1_2[i]? = some w) (hm : mvW w = true) : w ∈ AW := List.mem_filter.mpr ⟨List.mem_append_right _ (show w ∈ tables_1_1 ++ (tables_1_2 ++ (tables_1_3 ++ (tables_1_4 ++ tables_1_5))) from (List.mem_append_right _ (List.mem_append_left _ (List.mem_of_getElem? h)))), hm⟩
theorem aw_of3 {w : Cond} {i : Nat} (h : tables_1_3[i]? = some w) (hm : mvW w = true) : w ∈ AW := List.mem_filter.mpr ⟨List.mem_append_right _ (show w ∈ tables_1_1 ++ (tables_1_2 ++ (tables_1_3 ++ (tables_1_4 ++ tables_1_5))) from (List.mem_append_right _ (List.mem_append_right _ (List.mem_append_left _ (List.mem_of_getElem? h))))), hm⟩
theorem aw_of4 {w : Cond} {i : Nat} (h : tables_1_4[i]? = some w) (hm : mvW w = true) : w ∈ AW := List.mem_filter.mpr ⟨List.mem_append_right _ (show w ∈ tables_1_1 ++ (tables_1_2 ++ (tables_1_3 ++ (tables_1_4 ++ tables_1_5))) from (List.mem_append_right _ (List.mem_append_right _ (List.mem_append_right _ (List.mem_append_left _ (List.mem_of_getElem? h)))))), hm⟩
theorem aw_of5 {w : Cond} {i : Nat} (h : tables_1_5[i]? = some w) (hm : mvW w = true) : w ∈ AW := List.mem_filter.mpr ⟨List.mem_append_right _ (show w ∈ tables_1_1 ++ (tables_1_2 ++ (tables_1_3 ++ (tables_1_4 ++ tables_1_5))) from (List.mem_append_right _ (List.mem_append_right _ (List.mem_append_right _ (List.mem_append_right _ (List.mem_of_getElem? h)))))), hm⟩
theorem aw_0 : Cond.selects "RejudgeHall$Entry" yX0_waits yX0_waits ∈ AW := aw_of0 (i := 0) rfl rfl
theorem aw_1 : Cond.selects "RejudgeHall" yX7_giveVerdict yX7_giveVerdict ∈ AW := aw_of0 (i := 1) rfl rfl
theorem aw_2 : Cond.selects "RejudgeHall" yX7_tryOut yX7_tryOut ∈ AW := aw_of0 (i := 2) rfl rfl
theorem aw_3 : Cond.selects "RejudgeHall$Machine" yX1_execute yX1_execute ∈ AW := aw_of0 (i := 3) rfl rfl
theorem aw_4 : Cond.selects "RejudgeHall$Machine" yX1_step yX1_step ∈ AW := aw_of0 (i := 4) rfl rfl
theorem aw_5 : Cond.selects "RejudgeHall$Program" yX3_has yX3_has ∈ AW := aw_of0 (i := 5) rfl rfl
theorem aw_6 : Cond.selects "RejudgeHall$Row" yX4_at yX4_at ∈ AW := aw_of0 (i := 6) rfl rfl
theorem aw_7 : Cond.selects "RejudgeHall$Machine" yX1_put yX1_put ∈ AW := aw_of0 (i := 7) rfl rfl
theorem aw_8 : Cond.selects "RejudgeHall$Row" yX4_isFull yX4_isFull ∈ AW := aw_of0 (i := 8) rfl rfl
theorem aw_9 : Cond.selects "RejudgeHall$Row" yX4_push yX4_push ∈ AW := aw_of0 (i := 9) rfl rfl
theorem aw_10 : Cond.selects "RejudgeHall$Machine" yX1_make yX1_make ∈ AW := aw_of0 (i := 10) rfl rfl
theorem aw_11 : Cond.selects "RejudgeHall$Row" yX4_pop yX4_pop ∈ AW := aw_of0 (i := 11) rfl rfl
theorem aw_12 : Cond.selects "RejudgeHall$Machine" yX1_swap yX1_swap ∈ AW := aw_of0 (i := 12) rfl rfl
theorem aw_13 : Cond.selects "RejudgeHall$Machine" yX1_goIfZero yX1_goIfZero ∈ AW := aw_of0 (i := 13) rfl rfl
theorem aw_14 : Cond.selects "RejudgeHall$Machine" yX1_goTo yX1_goTo ∈ AW := aw_of0 (i := 14) rfl rfl
theorem aw_15 : Cond.selects "RejudgeHall$Machine" yX1_print yX1_print ∈ AW := aw_of0 (i := 15) rfl rfl
theorem aw_16 : Cond.selects "RejudgeHall$Row" yX4_isWithin yX4_isWithin ∈ AW := aw_of0 (i := 16) rfl rfl
theorem aw_17 : Cond.selects "RejudgeHall$Problem" yX2_pointsOf yX2_pointsOf ∈ AW := aw_of0 (i := 17) rfl rfl
theorem aw_18 : Cond.selects "RejudgeHall" yX7_countVerdicts yX7_countVerdicts ∈ AW := aw_of0 (i := 18) rfl rfl
theorem aw_19 : Cond.selects "RejudgeHall$Standings" yX5_wipe yX5_wipe ∈ AW := aw_of0 (i := 19) rfl rfl
theorem aw_20 : Cond.selects "RejudgeHall" yX7_isHidden yX7_isHidden ∈ AW := aw_of0 (i := 20) rfl rfl
theorem aw_21 : Cond.selects "RejudgeHall" yX7_isLate yX7_isLate ∈ AW := aw_of0 (i := 21) rfl rfl
theorem aw_22 : Cond.selects "RejudgeHall$Standings" yX5_count yX5_count ∈ AW := aw_of0 (i := 22) rfl rfl
theorem aw_23 : Cond.selects "RejudgeHall" yX7_lowestHidden yX7_lowestHidden ∈ AW := aw_of0 (i := 23) rfl rfl
theorem aw_24 : Cond.selects "RejudgeHall$Standings" yX5_isAhead yX5_isAhead ∈ AW := aw_of0 (i := 24) rfl rfl
theorem aw_25 : Cond.selects "java/lang/Throwable" ⟨"java/lang/Throwable", "fillInStackTrace", "(I)Ljava/lang/Throwable;"⟩ ⟨"java/lang/Throwable", "fillInStackTrace", "(I)Ljava/lang/Throwable;"⟩ ∈ AW := aw_of0 (i := 25) rfl rfl
theorem aw_26 : Cond.selects "RejudgeHall$Program" yX3_append yX3_append ∈ AW := aw_of0 (i := 26) rfl rfl
theorem aw_27 : Cond.selects "RejudgeHall$Program" yX3_takeFrom yX3_takeFrom ∈ AW := aw_of0 (i := 27) rfl rfl
theorem aw_28 : Cond.selects "java/util/ArrayList" yJx4a65c_add_72be8 yJx4a65c_add_72be8 ∈ AW := aw_of0 (i := 28) rfl rfl
theorem aw_29 : Cond.selects "java/util/ArrayList" yJx4a65c_grow_d5877 yJx4a65c_grow_d5877 ∈ AW := aw_of0 (i := 29) rfl rfl
theorem aw_30 : Cond.selects "java/util/ArrayList" yJx4a65c_grow_92f84 yJx4a65c_grow_92f84 ∈ AW := aw_of0 (i := 30) rfl rfl
theorem aw_31 : Cond.selects "RejudgeHall" yX7_problemAt yX7_problemAt ∈ AW := aw_of0 (i := 31) rfl rfl
theorem aw_32 : Cond.selects "RejudgeHall" yX7_findsAnswer yX7_findsAnswer ∈ AW := aw_of0 (i := 32) rfl rfl
theorem aw_33 : Cond.selects "RejudgeHall$Row" yX4_copyFrom yX4_copyFrom ∈ AW := aw_of0 (i := 33) rfl rfl
theorem aw_34 : Cond.selects "RejudgeHall$Problem" yX2_addTrial yX2_addTrial ∈ AW := aw_of0 (i := 34) rfl rfl
theorem aw_35 : Cond.selects "RejudgeHall" yX7_findsAllAnswers yX7_findsAllAnswers ∈ AW := aw_of0 (i := 35) rfl rfl
theorem aw_36 : Cond.selects "RejudgeHall" yX7_renewAnswers yX7_renewAnswers ∈ AW := aw_of0 (i := 36) rfl rfl
theorem aw_37 : Cond.selects "RejudgeHall$Entry" yX0_letWait yX0_letWait ∈ AW := aw_of0 (i := 37) rfl rfl
theorem aw_38 : Cond.selects "RejudgeHall" yX7_entryAt yX7_entryAt ∈ AW := aw_of0 (i := 38) rfl rfl
theorem aw_39 : Cond.selects "RejudgeHall" yX7_longestCommon yX7_longestCommon ∈ AW := aw_of0 (i := 39) rfl rfl
theorem aw_40 : Cond.selects "RejudgeHall$Program" yX3_isAlikeAt yX3_isAlikeAt ∈ AW := aw_of0 (i := 40) rfl rfl
theorem aw_41 : Cond.selects "RejudgeHall$Standings" yX5_placeOf yX5_placeOf ∈ AW := aw_of0 (i := 41) rfl rfl
theorem aw_42 : Cond.selects "RejudgeHall" yX7_passesAll yX7_passesAll ∈ AW := aw_of0 (i := 42) rfl rfl
theorem aw_43 : Cond.selects "RejudgeHall" yX7_hasSolved yX7_hasSolved ∈ AW := aw_of0 (i := 43) rfl rfl
theorem aw_44 : Cond.selects "RejudgeHallModel" yX8_empties yX8_empties ∈ AW := aw_of0 (i := 44) rfl rfl
theorem aw_45 : Cond.selects "RejudgeHallModel" yX8_runs yX8_runs ∈ AW := aw_of0 (i := 45) rfl rfl
theorem aw_46 : Cond.selects "RejudgeHallModel" yX8_pushes yX8_pushes ∈ AW := aw_of0 (i := 46) rfl rfl
theorem aw_47 : Cond.selects "RejudgeHallModel" yX8_makes yX8_makes ∈ AW := aw_of0 (i := 47) rfl rfl
theorem aw_48 : Cond.selects "RejudgeHallModel" yX8_copies yX8_copies ∈ AW := aw_of0 (i := 48) rfl rfl
theorem aw_49 : Cond.selects "RejudgeHallModel" yX8_isProblem yX8_isProblem ∈ AW := aw_of0 (i := 49) rfl rfl
theorem aw_50 : Cond.selects "RejudgeHallModel" yX8_answers yX8_answers ∈ AW := aw_of0 (i := 50) rfl rfl
theorem aw_51 : Cond.selects "RejudgeHallModel" yX8_becomes yX8_becomes ∈ AW := aw_of0 (i := 51) rfl rfl
theorem aw_52 : Cond.selects "RejudgeHallModel" yX8_judges yX8_judges ∈ AW := aw_of0 (i := 52) rfl rfl
theorem aw_53 : Cond.selects "RejudgeHallModel" yX8_does yX8_does ∈ AW := aw_of0 (i := 53) rfl rfl
theorem aw_54 : Cond.selects "RejudgeHallModel" yX8_firstFailed yX8_firstFailed ∈ AW := aw_of0 (i := 54) rfl rfl
theorem aw_55 : Cond.selects "RejudgeHallModel" yX8_isEntry yX8_isEntry ∈ AW := aw_of0 (i := 55) rfl rfl
theorem aw_56 : Cond.selects "RejudgeHallModel" yX8_areAlike yX8_areAlike ∈ AW := aw_of0 (i := 56) rfl rfl
theorem aw_57 : Cond.selects "RejudgeHallModel" yX8_tells yX8_tells ∈ AW := aw_of0 (i := 57) rfl rfl
theorem aw_58 : Cond.selects "RejudgeHallModel" yX8_isLate yX8_isLate ∈ AW := aw_of0 (i := 58) rfl rfl
theorem aw_59 : Cond.selects "RejudgeHallModel" yX8_boards yX8_boards ∈ AW := aw_of0 (i := 59) rfl rfl
theorem aw_60 : Cond.selects "RejudgeHallModel" yX8_counts yX8_counts ∈ AW := aw_of0 (i := 60) rfl rfl
theorem aw_61 : Cond.selects "RejudgeHallModel" yX8_toReveal yX8_toReveal ∈ AW := aw_of0 (i := 61) rfl rfl
theorem aw_62 : Cond.selects "RejudgeHallModel" yX8_isAhead yX8_isAhead ∈ AW := aw_of0 (i := 62) rfl rfl
theorem aw_63 : Cond.selects "RejudgeHallModel" yX8_placeOf yX8_placeOf ∈ AW := aw_of0 (i := 63) rfl rfl
theorem aw_64 : Cond.initialized "RejudgeHallLaw" ∈ AW := aw_of1 (i := 0) rfl rfl
theorem aw_65 : Cond.initialized "RejudgeHall" ∈ AW := aw_of1 (i := 1) rfl rfl
theorem aw_66 : Cond.initialized "RejudgeHall$Program" ∈ AW := aw_of1 (i := 2) rfl rfl
theorem aw_67 : Cond.initialized "RejudgeHall$Row" ∈ AW := aw_of1 (i := 3) rfl rfl
theorem aw_68 : Cond.initialized "RejudgeHall$Machine" ∈ AW := aw_of1 (i := 4) rfl rfl
theorem aw_69 : Cond.initialized "java/util/AbstractCollection" ∈ AW := aw_of1 (i := 5) rfl rfl
theorem aw_70 : Cond.initialized "java/util/AbstractList" ∈ AW := aw_of1 (i := 6) rfl rfl
theorem aw_71 : Cond.initialized "java/util/ArrayList" ∈ AW := aw_of1 (i := 7) rfl rfl
theorem aw_72 : Cond.initialized "RejudgeHall$Standings" ∈ AW := aw_of1 (i := 8) rfl rfl
theorem aw_73 : Cond.initialized "RejudgeHallModel" ∈ AW := aw_of1 (i := 9) rfl rfl
theorem aw_74 : Cond.initialized "java/lang/Throwable" ∈ AW := aw_of1 (i := 10) rfl rfl
theorem aw_75 : Cond.initialized "java/lang/Exception" ∈ AW := aw_of1 (i := 11) rfl rfl
theorem aw_76 : Cond.initialized "java/lang/RuntimeException" ∈ AW := aw_of1 (i := 12) rfl rfl
theorem aw_77 : Cond.initialized "java/lang/IllegalArgumentException" ∈ AW := aw_of1 (i := 13) rfl rfl
theorem aw_78 : Cond.initialized "java/lang/IllegalStateException" ∈ AW := aw_of1 (i := 14) rfl rfl
theorem aw_79 : Cond.initialized "RejudgeHall$Problem" ∈ AW := aw_of1 (i := 15) rfl rfl
theorem aw_80 : Cond.initialized "java/util/Arrays" ∈ AW := aw_of1 (i := 16) rfl rfl
theorem aw_81 : Cond.initialized "java/lang/System" ∈ AW := aw_of1 (i := 17) rfl rfl
theorem aw_82 : Cond.initialized "jdk/internal/util/ArraysSupport" ∈ AW := aw_of1 (i := 18) rfl rfl
theorem aw_83 : Cond.initialized "java/lang/Math" ∈ AW := aw_of1 (i := 19) rfl rfl
theorem aw_84 : Cond.initialized "java/lang/IndexOutOfBoundsException" ∈ AW := aw_of1 (i := 20) rfl rfl
theorem aw_85 : Cond.initialized "java/util/Objects" ∈ AW := aw_of1 (i := 21) rfl rfl
theorem aw_86 : Cond.initialized "jdk/internal/util/Preconditions" ∈ AW := aw_of1 (i := 22) rfl rfl
theorem aw_87 : Cond.initialized "RejudgeHall$Trial" ∈ AW := aw_of1 (i := 23) rfl rfl
theorem aw_88 : Cond.initialized "RejudgeHall$Entry" ∈ AW := aw_of1 (i := 24) rfl rfl
theorem aw_89 : Cond.classLink "RejudgeHallLaw" 8 "RejudgeHall" ∈ AW := aw_of1 (i := 25) rfl rfl
theorem aw_90 : Cond.instantiable "RejudgeHall" 12 ∈ AW := aw_of1 (i := 26) rfl rfl
theorem aw_91 : Cond.methodLink "RejudgeHallLaw" 72 yX7_init ∈ AW := aw_of1 (i := 27) rfl rfl
theorem aw_92 : Cond.instanceMethod yX7_init ∈ AW := aw_of1 (i := 28) rfl rfl
theorem aw_93 : Cond.code yX7_init prog_1_method_1_code 1 (none : Option Jvm.ClassFile.FieldType) ∈ AW := aw_of1 (i := 29) rfl rfl
theorem aw_94 : Cond.methodLink "RejudgeHall" 1 ⟨"java/lang/Object", "<init>", "()V"⟩ ∈ AW := aw_of1 (i := 30) rfl rfl
theorem aw_95 : Cond.instanceMethod ⟨"java/lang/Object", "<init>", "()V"⟩ ∈ AW := aw_of1 (i := 31) rfl rfl
theorem aw_96 : Cond.code ⟨"java/lang/Object", "<init>", "()V"⟩ object_method_1_code 1 (none : Option Jvm.ClassFile.FieldType) ∈ AW := aw_of1 (i := 32) rfl rfl
theorem aw_97 : Cond.classLink "RejudgeHall" 7 "RejudgeHall$Program" ∈ AW := aw_of1 (i := 33) rfl rfl
theorem aw_98 : Cond.instantiable "RejudgeHall$Program" 3 ∈ AW := aw_of1 (i := 34) rfl rfl
theorem aw_99 : Cond.methodLinkNest "RejudgeHall" 9 yX3_init "RejudgeHall" ∈ AW := aw_of1 (i := 35) rfl rfl
theorem aw_100 : Cond.instanceMethod yX3_init ∈ AW := aw_of1 (i := 36) rfl rfl
theorem aw_101 : Cond.code yX3_init prog_5_method_1_code 1 (none : Option Jvm.ClassFile.FieldType) ∈ AW := aw_of1 (i := 37) rfl rfl
theorem aw_102 : Cond.methodLink "RejudgeHall$Program" 3 ⟨"java/lang/Object", "<init>", "()V"⟩ ∈ AW := aw_of1 (i := 38) rfl rfl
theorem aw_103 : Cond.fieldLink "RejudgeHall$Program" 9 "RejudgeHall$Program" "sorts" "[I" ∈ AW := aw_of1 (i := 39) rfl rfl
theorem aw_104 : Cond.fieldLinkNest "RejudgeHall$Machine" 45 "RejudgeHall$Program" "sorts" "[I" "RejudgeHall" ∈ AW := aw_of1 (i := 40) rfl rfl
theorem aw_105 : Cond.fieldLink "RejudgeHall$Program" 15 "RejudgeHall$Program" "numbers" "[I" ∈ AW := aw_of1 (i := 41) rfl rfl
theorem aw_106 : Cond.fieldLinkNest "RejudgeHall$Machine" 49 "RejudgeHall$Program" "numbers" "[I" "RejudgeHall" ∈ AW := aw_of1 (i := 42) rfl rfl
theorem aw_107 : Cond.fieldLink "RejudgeHall$Program" 18 "RejudgeHall$Program" "length" "I" ∈ AW := aw_of1 (i := 43) rfl rfl
theorem aw_108 : Cond.fieldLinkNest "RejudgeHall" 72 "RejudgeHall$Program" "length" "I" "RejudgeHall" ∈ AW := aw_of1 (i := 44) rfl rfl
theorem aw_109 : Cond.fieldLinkNest "RejudgeHall$Machine" 34 "RejudgeHall$Program" "length" "I" "RejudgeHall" ∈ AW := aw_of1 (i := 45) rfl rfl
theorem aw_117 : Cond.arrayClass .int ∈ AW := aw_of1 (i := 53) rfl rfl
theorem aw_118 : Cond.classLink "RejudgeHall" 16 "RejudgeHall$Row" ∈ AW := aw_of1 (i := 54) rfl rfl
theorem aw_119 : Cond.instantiable "RejudgeHall$Row" 2 ∈ AW := aw_of1 (i := 55) rfl rfl
theorem aw_120 : Cond.methodLinkNest "RejudgeHall" 18 yX4_init "RejudgeHall" ∈ AW := aw_of1 (i := 56) rfl rfl
theorem aw_121 : Cond.instanceMethod yX4_init ∈ AW := aw_of1 (i := 57) rfl rfl
theorem aw_122 : Cond.code yX4_init prog_6_method_1_code 1 (none : Option Jvm.ClassFile.FieldType) ∈ AW := aw_of1 (i := 58) rfl rfl
theorem aw_123 : Cond.methodLink "RejudgeHall$Row" 3 ⟨"java/lang/Object", "<init>", "()V"⟩ ∈ AW := aw_of1 (i := 59) rfl rfl
theorem aw_124 : Cond.fieldLink "RejudgeHall$Row" 9 "RejudgeHall$Row" "numbers" "[I" ∈ AW := aw_of1 (i := 60) rfl rfl
theorem aw_125 : Cond.fieldLink "RejudgeHall$Row" 15 "RejudgeHall$Row" "length" "I" ∈ AW := aw_of1 (i := 61) rfl rfl
theorem aw_126 : Cond.fieldLinkNest "RejudgeHall$Machine" 31 "RejudgeHall$Row" "length" "I" "RejudgeHall" ∈ AW := aw_of1 (i := 62) rfl rfl
theorem aw_127 : Cond.fieldLinkNest "RejudgeHall" 86 "RejudgeHall$Row" "length" "I" "RejudgeHall" ∈ AW := aw_of1 (i := 63) rfl rfl
theorem aw_133 : Cond.classLink "RejudgeHall" 23 "RejudgeHall$Machine" ∈ AW := aw_of1 (i := 69) rfl rfl
theorem aw_134 : Cond.instantiable "RejudgeHall$Machine" 5 ∈ AW := aw_of1 (i := 70) rfl rfl
theorem aw_135 : Cond.methodLinkNest "RejudgeHall" 25 yX1_init "RejudgeHall" ∈ AW := aw_of1 (i := 71) rfl rfl
theorem aw_136 : Cond.instanceMethod yX1_init ∈ AW := aw_of1 (i := 72) rfl rfl
theorem aw_137 : Cond.code yX1_init prog_3_method_1_code 1 (none : Option Jvm.ClassFile.FieldType) ∈ AW := aw_of1 (i := 73) rfl rfl
theorem aw_138 : Cond.methodLink "RejudgeHall$Machine" 3 ⟨"java/lang/Object", "<init>", "()V"⟩ ∈ AW := aw_of1 (i := 74) rfl rfl
theorem aw_139 : Cond.classLink "RejudgeHall$Machine" 9 "RejudgeHall$Row" ∈ AW := aw_of1 (i := 75) rfl rfl
theorem aw_140 : Cond.methodLinkNest "RejudgeHall$Machine" 11 yX4_init "RejudgeHall" ∈ AW := aw_of1 (i := 76) rfl rfl
theorem aw_141 : Cond.fieldLink "RejudgeHall$Machine" 12 "RejudgeHall$Machine" "stack" "LRejudgeHall$Row;" ∈ AW := aw_of1 (i := 77) rfl rfl
theorem aw_142 : Cond.fieldLink "RejudgeHall$Machine" 18 "RejudgeHall$Machine" "output" "LRejudgeHall$Row;" ∈ AW := aw_of1 (i := 78) rfl rfl
theorem aw_143 : Cond.fieldLinkNest "RejudgeHall" 100 "RejudgeHall$Machine" "output" "LRejudgeHall$Row;" "RejudgeHall" ∈ AW := aw_of1 (i := 79) rfl rfl
theorem aw_144 : Cond.fieldLink "RejudgeHall$Machine" 21 "RejudgeHall$Machine" "steps" "I" ∈ AW := aw_of1 (i := 80) rfl rfl
theorem aw_145 : Cond.fieldLinkNest "RejudgeHall" 97 "RejudgeHall$Machine" "steps" "I" "RejudgeHall" ∈ AW := aw_of1 (i := 81) rfl rfl
theorem aw_146 : Cond.fieldLink "RejudgeHall$Machine" 25 "RejudgeHall$Machine" "next" "I" ∈ AW := aw_of1 (i := 82) rfl rfl
theorem aw_147 : Cond.fieldLink "RejudgeHall$Machine" 28 "RejudgeHall$Machine" "inputsRead" "I" ∈ AW := aw_of1 (i := 83) rfl rfl
theorem aw_159 : Cond.classLink "RejudgeHall" 30 "java/util/ArrayList" ∈ AW := aw_of1 (i := 95) rfl rfl
theorem aw_160 : Cond.instantiable "java/util/ArrayList" 3 ∈ AW := aw_of1 (i := 96) rfl rfl
theorem aw_161 : Cond.methodLink "RejudgeHall" 32 yJx4a65c_init_da8c8 ∈ AW := aw_of1 (i := 97) rfl rfl
theorem aw_162 : Cond.instanceMethod yJx4a65c_init_da8c8 ∈ AW := aw_of1 (i := 98) rfl rfl
theorem aw_163 : Cond.code yJx4a65c_init_da8c8 prog_25_method_2_code 1 (none : Option Jvm.ClassFile.FieldType) ∈ AW := aw_of1 (i := 99) rfl rfl
theorem aw_164 : Cond.methodLink "java/util/ArrayList" 1 yJxc12de_init_da8c8 ∈ AW := aw_of1 (i := 100) rfl rfl
theorem aw_165 : Cond.instanceMethod yJxc12de_init_da8c8 ∈ AW := aw_of1 (i := 101) rfl rfl
theorem aw_166 : Cond.code yJxc12de_init_da8c8 prog_24_method_1_code 1 (none : Option Jvm.ClassFile.FieldType) ∈ AW := aw_of1 (i := 102) rfl rfl
theorem aw_167 : Cond.methodLink "java/util/AbstractList" 1 yJxa1e45_init_da8c8 ∈ AW := aw_of1 (i := 103) rfl rfl
theorem aw_168 : Cond.instanceMethod yJxa1e45_init_da8c8 ∈ AW := aw_of1 (i := 104) rfl rfl
theorem aw_169 : Cond.code yJxa1e45_init_da8c8 prog_23_method_1_code 1 (none : Option Jvm.ClassFile.FieldType) ∈ AW := aw_of1 (i := 105) rfl rfl
theorem aw_170 : Cond.methodLink "java/util/AbstractCollection" 1 ⟨"java/lang/Object", "<init>", "()V"⟩ ∈ AW := aw_of1 (i := 106) rfl rfl
theorem aw_171 : Cond.fieldLink "java/util/ArrayList" 39 "java/util/ArrayList" "DEFAULTCAPACITY_EMPTY_ELEMENTDATA" "[Ljava/lang/Object;" ∈ AW := aw_of1 (i := 107) rfl rfl
theorem aw_173 : Cond.fieldLink "java/util/ArrayList" 9 "java/util/ArrayList" "elementData" "[Ljava/lang/Object;" ∈ AW := aw_of1 (i := 109) rfl rfl
theorem aw_174 : Cond.fieldLink "java/util/ArrayList" 48 "java/util/ArrayList" "size" "I" ∈ AW := aw_of1 (i := 110) rfl rfl
theorem aw_175 : Cond.fieldLink "java/util/AbstractList" 7 "java/util/AbstractList" "modCount" "I" ∈ AW := aw_of1 (i := 111) rfl rfl
theorem aw_176 : Cond.fieldLink "java/util/ArrayList" 63 "java/util/ArrayList" "modCount" "I" ∈ AW := aw_of1 (i := 112) rfl rfl
theorem aw_177 : Cond.sameField "java/util/ArrayList" "java/util/AbstractList" "modCount" "I" ∈ AW := aw_of1 (i := 113) rfl rfl
theorem aw_185 : Cond.classLink "RejudgeHall" 40 "RejudgeHall$Standings" ∈ AW := aw_of1 (i := 121) rfl rfl
theorem aw_186 : Cond.instantiable "RejudgeHall$Standings" 5 ∈ AW := aw_of1 (i := 122) rfl rfl
theorem aw_187 : Cond.methodLinkNest "RejudgeHall" 42 yX5_init "RejudgeHall" ∈ AW := aw_of1 (i := 123) rfl rfl
theorem aw_188 : Cond.instanceMethod yX5_init ∈ AW := aw_of1 (i := 124) rfl rfl
theorem aw_189 : Cond.code yX5_init prog_7_method_1_code 1 (none : Option Jvm.ClassFile.FieldType) ∈ AW := aw_of1 (i := 125) rfl rfl
theorem aw_190 : Cond.methodLink "RejudgeHall$Standings" 3 ⟨"java/lang/Object", "<init>", "()V"⟩ ∈ AW := aw_of1 (i := 126) rfl rfl
theorem aw_191 : Cond.fieldLink "RejudgeHall$Standings" 9 "RejudgeHall$Standings" "solved" "[I" ∈ AW := aw_of1 (i := 127) rfl rfl
theorem aw_192 : Cond.fieldLinkNest "RejudgeHall" 261 "RejudgeHall$Standings" "solved" "[I" "RejudgeHall" ∈ AW := aw_of1 (i := 128) rfl rfl
theorem aw_193 : Cond.fieldLink "RejudgeHall$Standings" 15 "RejudgeHall$Standings" "sums" "[I" ∈ AW := aw_of1 (i := 129) rfl rfl
theorem aw_194 : Cond.fieldLinkNest "RejudgeHall" 264 "RejudgeHall$Standings" "sums" "[I" "RejudgeHall" ∈ AW := aw_of1 (i := 130) rfl rfl
theorem aw_195 : Cond.fieldLink "RejudgeHall$Standings" 18 "RejudgeHall$Standings" "latest" "[I" ∈ AW := aw_of1 (i := 131) rfl rfl
theorem aw_196 : Cond.fieldLinkNest "RejudgeHall" 267 "RejudgeHall$Standings" "latest" "[I" "RejudgeHall" ∈ AW := aw_of1 (i := 132) rfl rfl
theorem aw_197 : Cond.fieldLink "RejudgeHall$Standings" 21 "RejudgeHall$Standings" "tries" "[I" ∈ AW := aw_of1 (i := 133) rfl rfl
theorem aw_198 : Cond.fieldLink "RejudgeHall$Standings" 24 "RejudgeHall$Standings" "isSolved" "[Z" ∈ AW := aw_of1 (i := 134) rfl rfl
theorem aw_210 : Cond.arrayClass .boolean ∈ AW := aw_of1 (i := 146) rfl rfl
theorem aw_211 : Cond.fieldLink "RejudgeHall" 10 "RejudgeHall" "deskProgram" "LRejudgeHall$Program;" ∈ AW := aw_of1 (i := 147) rfl rfl
theorem aw_212 : Cond.fieldLink "RejudgeHall" 19 "RejudgeHall" "deskInput" "LRejudgeHall$Row;" ∈ AW := aw_of1 (i := 148) rfl rfl
theorem aw_213 : Cond.fieldLink "RejudgeHall" 26 "RejudgeHall" "machine" "LRejudgeHall$Machine;" ∈ AW := aw_of1 (i := 149) rfl rfl
theorem aw_214 : Cond.fieldLink "RejudgeHall" 33 "RejudgeHall" "problems" "Ljava/util/ArrayList;" ∈ AW := aw_of1 (i := 150) rfl rfl
theorem aw_215 : Cond.fieldLink "RejudgeHall" 37 "RejudgeHall" "entries" "Ljava/util/ArrayList;" ∈ AW := aw_of1 (i := 151) rfl rfl
theorem aw_216 : Cond.fieldLink "RejudgeHall" 43 "RejudgeHall" "standings" "LRejudgeHall$Standings;" ∈ AW := aw_of1 (i := 152) rfl rfl
theorem aw_217 : Cond.fieldLink "RejudgeHall" 47 "RejudgeHall" "judgings" "[I" ∈ AW := aw_of1 (i := 153) rfl rfl
theorem aw_218 : Cond.fieldLink "RejudgeHall" 51 "RejudgeHall" "hacks" "[I" ∈ AW := aw_of1 (i := 154) rfl rfl
theorem aw_219 : Cond.fieldLink "RejudgeHall" 54 "RejudgeHall" "revealed" "[Z" ∈ AW := aw_of1 (i := 155) rfl rfl
theorem aw_220 : Cond.fieldLink "RejudgeHall" 58 "RejudgeHall" "commonRow" "[I" ∈ AW := aw_of1 (i := 156) rfl rfl
theorem aw_221 : Cond.fieldLink "RejudgeHall" 61 "RejudgeHall" "minute" "I" ∈ AW := aw_of1 (i := 157) rfl rfl
theorem aw_222 : Cond.fieldLink "RejudgeHall" 65 "RejudgeHall" "frozenFrom" "I" ∈ AW := aw_of1 (i := 158) rfl rfl
theorem aw_248 : Cond.methodLink "RejudgeHallLaw" 90 yX7_clear ∈ AW := aw_of1 (i := 184) rfl rfl
theorem aw_249 : Cond.instanceMethod yX7_clear ∈ AW := aw_of1 (i := 185) rfl rfl
theorem aw_250 : Cond.selects "RejudgeHall" yX7_clear yX7_clear ∈ AW := aw_of1 (i := 186) rfl rfl
theorem aw_251 : Cond.code yX7_clear prog_1_method_4_code 2 (some .int) ∈ AW := aw_of1 (i := 187) rfl rfl
theorem aw_252 : Cond.methodLink "RejudgeHallLaw" 119 yX7_judge ∈ AW := aw_of1 (i := 188) rfl rfl
theorem aw_253 : Cond.instanceMethod yX7_judge ∈ AW := aw_of1 (i := 189) rfl rfl
theorem aw_254 : Cond.selects "RejudgeHall" yX7_judge yX7_judge ∈ AW := aw_of1 (i := 190) rfl rfl
theorem aw_255 : Cond.code yX7_judge prog_1_method_13_code 5 (some .int) ∈ AW := aw_of1 (i := 191) rfl rfl
theorem aw_256 : Cond.methodLink "RejudgeHall" 107 yJx4a65c_size_8abf5 ∈ AW := aw_of1 (i := 192) rfl rfl
theorem aw_257 : Cond.instanceMethod yJx4a65c_size_8abf5 ∈ AW := aw_of1 (i := 193) rfl rfl
theorem aw_258 : Cond.selects "java/util/ArrayList" yJx4a65c_size_8abf5 yJx4a65c_size_8abf5 ∈ AW := aw_of1 (i := 194) rfl rfl
theorem aw_259 : Cond.code yJx4a65c_size_8abf5 prog_25_method_8_code 1 (some .int) ∈ AW := aw_of1 (i := 195) rfl rfl
theorem aw_260 : Cond.methodLink "RejudgeHall" 182 yJx4a65c_get_915e3 ∈ AW := aw_of1 (i := 196) rfl rfl
theorem aw_261 : Cond.instanceMethod yJx4a65c_get_915e3 ∈ AW := aw_of1 (i := 197) rfl rfl
theorem aw_262 : Cond.selects "java/util/ArrayList" yJx4a65c_get_915e3 yJx4a65c_get_915e3 ∈ AW := aw_of1 (i := 198) rfl rfl
theorem aw_263 : Cond.code yJx4a65c_get_915e3 prog_25_method_20_code 2 (some (.object "java/lang/Object")) ∈ AW := aw_of1 (i := 199) rfl rfl
theorem aw_264 : Cond.methodLink "java/util/ArrayList" 118 yJ15_checkIndex_7cf53 ∈ AW := aw_of1 (i := 200) rfl rfl
theorem aw_265 : Cond.static yJ15_checkIndex_7cf53 ∈ AW := aw_of1 (i := 201) rfl rfl
theorem aw_266 : Cond.code yJ15_checkIndex_7cf53 prog_29_method_17_code 2 (some .int) ∈ AW := aw_of1 (i := 202) rfl rfl
theorem aw_267 : Cond.methodLink "java/util/Objects" 105 yJ3_checkIndex_8e157 ∈ AW := aw_of1 (i := 203) rfl rfl
theorem aw_268 : Cond.static yJ3_checkIndex_8e157 ∈ AW := aw_of1 (i := 204) rfl rfl
theorem aw_269 : Cond.code yJ3_checkIndex_8e157 prog_33_method_11_code 3 (some .int) ∈ AW := aw_of1 (i := 205) rfl rfl
theorem aw_270 : Cond.methodLink "java/util/ArrayList" 123 yJx4a65c_elementData_915e3 ∈ AW := aw_of1 (i := 206) rfl rfl
theorem aw_271 : Cond.instanceMethod yJx4a65c_elementData_915e3 ∈ AW := aw_of1 (i := 207) rfl rfl
theorem aw_272 : Cond.selects "java/util/ArrayList" yJx4a65c_elementData_915e3 yJx4a65c_elementData_915e3 ∈ AW := aw_of1 (i := 208) rfl rfl
theorem aw_273 : Cond.code yJx4a65c_elementData_915e3 prog_25_method_18_code 2 (some (.object "java/lang/Object")) ∈ AW := aw_of1 (i := 209) rfl rfl
theorem aw_274 : Cond.classLink "RejudgeHall" 191 "RejudgeHall$Entry" ∈ AW := aw_of1 (i := 210) rfl rfl
theorem aw_275 : Cond.methodLinkNest "RejudgeHall" 201 yX0_waits "RejudgeHall" ∈ AW := aw_of1 (i := 211) rfl rfl
theorem aw_277 : Cond.instanceMethod yX0_waits ∈ AW := aw_of1 (i := 213) rfl rfl
theorem aw_278 : Cond.instantiable "RejudgeHall$Entry" 8 ∈ AW := aw_of1 (i := 214) rfl rfl
theorem aw_279 : Cond.code yX0_waits prog_2_method_2_code 1 (some .boolean) ∈ AW := aw_of1 (i := 215) rfl rfl
theorem aw_280 : Cond.methodLink "RejudgeHall" 208 yX7_giveVerdict ∈ AW := aw_of1 (i := 216) rfl rfl
theorem aw_282 : Cond.instanceMethod yX7_giveVerdict ∈ AW := aw_of1 (i := 218) rfl rfl
theorem aw_283 : Cond.code yX7_giveVerdict prog_1_method_31_code 8 (none : Option Jvm.ClassFile.FieldType) ∈ AW := aw_of1 (i := 219) rfl rfl
theorem aw_284 : Cond.classLink "RejudgeHall" 149 "RejudgeHall$Trial" ∈ AW := aw_of1 (i := 220) rfl rfl
theorem aw_285 : Cond.methodLink "RejudgeHall" 291 yX7_tryOut ∈ AW := aw_of1 (i := 221) rfl rfl
theorem aw_287 : Cond.instanceMethod yX7_tryOut ∈ AW := aw_of1 (i := 223) rfl rfl
theorem aw_288 : Cond.code yX7_tryOut prog_1_method_29_code 5 (some .int) ∈ AW := aw_of1 (i := 224) rfl rfl
theorem aw_289 : Cond.methodLinkNest "RejudgeHall" 93 yX1_execute "RejudgeHall" ∈ AW := aw_of1 (i := 225) rfl rfl
theorem aw_291 : Cond.instanceMethod yX1_execute ∈ AW := aw_of1 (i := 227) rfl rfl
theorem aw_292 : Cond.code yX1_execute prog_3_method_2_code 5 (some .int) ∈ AW := aw_of1 (i := 228) rfl rfl
theorem aw_293 : Cond.methodLink "RejudgeHall$Machine" 37 yX1_step ∈ AW := aw_of1 (i := 229) rfl rfl
theorem aw_295 : Cond.instanceMethod yX1_step ∈ AW := aw_of1 (i := 231) rfl rfl
theorem aw_296 : Cond.code yX1_step prog_3_method_3_code 5 (some .int) ∈ AW := aw_of1 (i := 232) rfl rfl
theorem aw_297 : Cond.methodLinkNest "RejudgeHall$Machine" 41 yX3_has "RejudgeHall" ∈ AW := aw_of1 (i := 233) rfl rfl
theorem aw_299 : Cond.instanceMethod yX3_has ∈ AW := aw_of1 (i := 235) rfl rfl
theorem aw_300 : Cond.code yX3_has prog_5_method_4_code 2 (some .boolean) ∈ AW := aw_of1 (i := 236) rfl rfl
theorem aw_301 : Cond.methodLinkNest "RejudgeHall$Machine" 52 yX4_at "RejudgeHall" ∈ AW := aw_of1 (i := 237) rfl rfl
theorem aw_303 : Cond.instanceMethod yX4_at ∈ AW := aw_of1 (i := 239) rfl rfl
theorem aw_304 : Cond.code yX4_at prog_6_method_5_code 2 (some .int) ∈ AW := aw_of2 (i := 0) rfl rfl
theorem aw_305 : Cond.methodLink "RejudgeHall$Machine" 56 yX1_put ∈ AW := aw_of2 (i := 1) rfl rfl
theorem aw_307 : Cond.instanceMethod yX1_put ∈ AW := aw_of2 (i := 3) rfl rfl
theorem aw_308 : Cond.code yX1_put prog_3_method_4_code 2 (some .int) ∈ AW := aw_of2 (i := 4) rfl rfl
theorem aw_309 : Cond.methodLinkNest "RejudgeHall$Machine" 76 yX4_isFull "RejudgeHall" ∈ AW := aw_of2 (i := 5) rfl rfl
theorem aw_311 : Cond.instanceMethod yX4_isFull ∈ AW := aw_of2 (i := 7) rfl rfl
theorem aw_312 : Cond.code yX4_isFull prog_6_method_2_code 1 (some .boolean) ∈ AW := aw_of2 (i := 8) rfl rfl
theorem aw_313 : Cond.methodLinkNest "RejudgeHall$Machine" 80 yX4_push "RejudgeHall" ∈ AW := aw_of2 (i := 9) rfl rfl
theorem aw_315 : Cond.instanceMethod yX4_push ∈ AW := aw_of2 (i := 11) rfl rfl
theorem aw_316 : Cond.code yX4_push prog_6_method_3_code 2 (none : Option Jvm.ClassFile.FieldType) ∈ AW := aw_of2 (i := 12) rfl rfl
theorem aw_317 : Cond.methodLink "RejudgeHall$Machine" 59 yX1_make ∈ AW := aw_of2 (i := 13) rfl rfl
theorem aw_319 : Cond.instanceMethod yX1_make ∈ AW := aw_of2 (i := 15) rfl rfl
theorem aw_320 : Cond.code yX1_make prog_3_method_5_code 8 (some .int) ∈ AW := aw_of2 (i := 16) rfl rfl
theorem aw_321 : Cond.methodLinkNest "RejudgeHall$Machine" 84 yX4_pop "RejudgeHall" ∈ AW := aw_of2 (i := 17) rfl rfl
theorem aw_323 : Cond.instanceMethod yX4_pop ∈ AW := aw_of2 (i := 19) rfl rfl
theorem aw_324 : Cond.code yX4_pop prog_6_method_4_code 1 (some .int) ∈ AW := aw_of2 (i := 20) rfl rfl
theorem aw_325 : Cond.constantLong "RejudgeHall$Machine" 87 (999999 : Int64) ∈ AW := aw_of2 (i := 21) rfl rfl
theorem aw_326 : Cond.constantLong "RejudgeHall$Machine" 89 (-999999 : Int64) ∈ AW := aw_of2 (i := 22) rfl rfl
theorem aw_327 : Cond.methodLink "RejudgeHall$Machine" 62 yX1_swap ∈ AW := aw_of2 (i := 23) rfl rfl
theorem aw_329 : Cond.instanceMethod yX1_swap ∈ AW := aw_of2 (i := 25) rfl rfl
theorem aw_330 : Cond.code yX1_swap prog_3_method_6_code 3 (some .int) ∈ AW := aw_of2 (i := 26) rfl rfl
theorem aw_331 : Cond.methodLink "RejudgeHall$Machine" 66 yX1_goIfZero ∈ AW := aw_of2 (i := 27) rfl rfl
theorem aw_333 : Cond.instanceMethod yX1_goIfZero ∈ AW := aw_of2 (i := 29) rfl rfl
theorem aw_334 : Cond.code yX1_goIfZero prog_3_method_7_code 3 (some .int) ∈ AW := aw_of2 (i := 30) rfl rfl
theorem aw_335 : Cond.methodLink "RejudgeHall$Machine" 70 yX1_goTo ∈ AW := aw_of2 (i := 31) rfl rfl
theorem aw_337 : Cond.instanceMethod yX1_goTo ∈ AW := aw_of2 (i := 33) rfl rfl
theorem aw_338 : Cond.code yX1_goTo prog_3_method_8_code 3 (some .int) ∈ AW := aw_of2 (i := 34) rfl rfl
theorem aw_339 : Cond.methodLink "RejudgeHall$Machine" 73 yX1_print ∈ AW := aw_of2 (i := 35) rfl rfl
theorem aw_341 : Cond.instanceMethod yX1_print ∈ AW := aw_of2 (i := 37) rfl rfl
theorem aw_342 : Cond.code yX1_print prog_3_method_9_code 1 (some .int) ∈ AW := aw_of2 (i := 38) rfl rfl
theorem aw_343 : Cond.methodLinkNest "RejudgeHall" 312 yX4_isWithin "RejudgeHall" ∈ AW := aw_of2 (i := 39) rfl rfl
theorem aw_345 : Cond.instanceMethod yX4_isWithin ∈ AW := aw_of2 (i := 41) rfl rfl
theorem aw_346 : Cond.code yX4_isWithin prog_6_method_7_code 4 (some .boolean) ∈ AW := aw_of2 (i := 42) rfl rfl
theorem aw_347 : Cond.methodLink "RejudgeHall$Row" 25 yX4_at ∈ AW := aw_of2 (i := 43) rfl rfl
theorem aw_348 : Cond.methodLink "RejudgeHall$Row" 29 yJ9_abs_0f7a4 ∈ AW := aw_of2 (i := 44) rfl rfl
theorem aw_349 : Cond.static yJ9_abs_0f7a4 ∈ AW := aw_of2 (i := 45) rfl rfl
theorem aw_350 : Cond.code yJ9_abs_0f7a4 prog_18_method_59_code 1 (some .int) ∈ AW := aw_of2 (i := 46) rfl rfl
theorem aw_351 : Cond.methodLinkNest "RejudgeHall" 319 yX2_pointsOf "RejudgeHall" ∈ AW := aw_of2 (i := 47) rfl rfl
theorem aw_353 : Cond.instanceMethod yX2_pointsOf ∈ AW := aw_of2 (i := 49) rfl rfl
theorem aw_354 : Cond.instantiable "RejudgeHall$Problem" 7 ∈ AW := aw_of2 (i := 50) rfl rfl
theorem aw_355 : Cond.code yX2_pointsOf prog_4_method_3_code 4 (some .int) ∈ AW := aw_of2 (i := 51) rfl rfl
theorem aw_356 : Cond.methodLink "RejudgeHallLaw" 136 yX7_reveal ∈ AW := aw_of2 (i := 52) rfl rfl
theorem aw_357 : Cond.instanceMethod yX7_reveal ∈ AW := aw_of2 (i := 53) rfl rfl
theorem aw_358 : Cond.selects "RejudgeHall" yX7_reveal yX7_reveal ∈ AW := aw_of2 (i := 54) rfl rfl
theorem aw_359 : Cond.code yX7_reveal prog_1_method_18_code 3 (some .int) ∈ AW := aw_of2 (i := 55) rfl rfl
theorem aw_360 : Cond.methodLink "RejudgeHall" 244 yX7_countVerdicts ∈ AW := aw_of2 (i := 56) rfl rfl
theorem aw_362 : Cond.instanceMethod yX7_countVerdicts ∈ AW := aw_of2 (i := 58) rfl rfl
theorem aw_363 : Cond.code yX7_countVerdicts prog_1_method_37_code 4 (none : Option Jvm.ClassFile.FieldType) ∈ AW := aw_of2 (i := 59) rfl rfl
theorem aw_364 : Cond.methodLinkNest "RejudgeHall" 270 yX5_wipe "RejudgeHall" ∈ AW := aw_of2 (i := 60) rfl rfl
theorem aw_366 : Cond.instanceMethod yX5_wipe ∈ AW := aw_of2 (i := 62) rfl rfl
theorem aw_367 : Cond.code yX5_wipe prog_7_method_2_code 2 (none : Option Jvm.ClassFile.FieldType) ∈ AW := aw_of2 (i := 63) rfl rfl
theorem aw_368 : Cond.methodLink "RejudgeHall$Standings" 28 yJ7_fill_53178 ∈ AW := aw_of2 (i := 64) rfl rfl
theorem aw_369 : Cond.static yJ7_fill_53178 ∈ AW := aw_of2 (i := 65) rfl rfl
theorem aw_370 : Cond.code yJ7_fill_53178 prog_26_method_103_code 4 (none : Option Jvm.ClassFile.FieldType) ∈ AW := aw_of2 (i := 66) rfl rfl
theorem aw_371 : Cond.methodLink "RejudgeHall" 338 yX7_isHidden ∈ AW := aw_of2 (i := 67) rfl rfl
theorem aw_373 : Cond.instanceMethod yX7_isHidden ∈ AW := aw_of2 (i := 69) rfl rfl
theorem aw_374 : Cond.code yX7_isHidden prog_1_method_36_code 2 (some .boolean) ∈ AW := aw_of2 (i := 70) rfl rfl
theorem aw_375 : Cond.methodLink "RejudgeHall" 335 yX7_isLate ∈ AW := aw_of2 (i := 71) rfl rfl
theorem aw_377 : Cond.instanceMethod yX7_isLate ∈ AW := aw_of2 (i := 73) rfl rfl
theorem aw_378 : Cond.code yX7_isLate prog_1_method_35_code 2 (some .boolean) ∈ AW := aw_of2 (i := 74) rfl rfl
theorem aw_379 : Cond.methodLink "RejudgeHall" 255 yX7_pairOf ∈ AW := aw_of2 (i := 75) rfl rfl
theorem aw_380 : Cond.static yX7_pairOf ∈ AW := aw_of2 (i := 76) rfl rfl
theorem aw_381 : Cond.code yX7_pairOf prog_1_method_34_code 2 (some .int) ∈ AW := aw_of2 (i := 77) rfl rfl
theorem aw_382 : Cond.methodLinkNest "RejudgeHall" 277 yX5_count "RejudgeHall" ∈ AW := aw_of2 (i := 78) rfl rfl
theorem aw_384 : Cond.instanceMethod yX5_count ∈ AW := aw_of2 (i := 80) rfl rfl
theorem aw_385 : Cond.code yX5_count prog_7_method_3_code 4 (none : Option Jvm.ClassFile.FieldType) ∈ AW := aw_of2 (i := 81) rfl rfl
theorem aw_386 : Cond.methodLinkNest "RejudgeHall$Standings" 49 yX7_pairOf "RejudgeHall" ∈ AW := aw_of2 (i := 82) rfl rfl
theorem aw_387 : Cond.methodLink "RejudgeHall$Standings" 56 yJ9_max_7cf53 ∈ AW := aw_of2 (i := 83) rfl rfl
theorem aw_388 : Cond.static yJ9_max_7cf53 ∈ AW := aw_of2 (i := 84) rfl rfl
theorem aw_389 : Cond.code yJ9_max_7cf53 prog_18_method_65_code 2 (some .int) ∈ AW := aw_of2 (i := 85) rfl rfl
theorem aw_390 : Cond.methodLink "RejudgeHall" 248 yX7_lowestHidden ∈ AW := aw_of2 (i := 86) rfl rfl
theorem aw_392 : Cond.instanceMethod yX7_lowestHidden ∈ AW := aw_of2 (i := 88) rfl rfl
theorem aw_393 : Cond.code yX7_lowestHidden prog_1_method_38_code 6 (some .int) ∈ AW := aw_of2 (i := 89) rfl rfl
theorem aw_394 : Cond.methodLink "RejudgeHall" 332 yJ9_min_7cf53 ∈ AW := aw_of2 (i := 90) rfl rfl
theorem aw_395 : Cond.static yJ9_min_7cf53 ∈ AW := aw_of2 (i := 91) rfl rfl
theorem aw_396 : Cond.code yJ9_min_7cf53 prog_18_method_69_code 2 (some .int) ∈ AW := aw_of2 (i := 92) rfl rfl
theorem aw_397 : Cond.methodLinkNest "RejudgeHall" 251 yX5_isAhead "RejudgeHall" ∈ AW := aw_of2 (i := 93) rfl rfl
theorem aw_399 : Cond.instanceMethod yX5_isAhead ∈ AW := aw_of2 (i := 95) rfl rfl
theorem aw_400 : Cond.code yX5_isAhead prog_7_method_4_code 3 (some .boolean) ∈ AW := aw_of2 (i := 96) rfl rfl
theorem aw_401 : Cond.methodLink "RejudgeHallLaw" 76 yL_code ∈ AW := aw_of2 (i := 97) rfl rfl
theorem aw_402 : Cond.static yL_code ∈ AW := aw_of2 (i := 98) rfl rfl
theorem aw_403 : Cond.codeWith yL_code method_3_code 5 (some .int) [(0, 10, 13, 13), (0, 10, 17, 15)] ∈ AW := aw_of2 (i := 99) rfl rfl
theorem aw_404 : Cond.classLink "RejudgeHallLaw" 13 "java/lang/IllegalArgumentException" ∈ AW := aw_of2 (i := 100) rfl rfl
theorem aw_405 : Cond.classLink "RejudgeHallLaw" 15 "java/lang/IllegalStateException" ∈ AW := aw_of2 (i := 101) rfl rfl
theorem aw_406 : Cond.methodLink "RejudgeHallLaw" 7 yX7_code ∈ AW := aw_of2 (i := 102) rfl rfl
theorem aw_407 : Cond.instanceMethod yX7_code ∈ AW := aw_of2 (i := 103) rfl rfl
theorem aw_408 : Cond.selects "RejudgeHall" yX7_code yX7_code ∈ AW := aw_of2 (i := 104) rfl rfl
theorem aw_409 : Cond.code yX7_code prog_1_method_2_code 3 (some .int) ∈ AW := aw_of2 (i := 105) rfl rfl
theorem aw_410 : Cond.methodLink "RejudgeHall" 68 yX7_needRange ∈ AW := aw_of2 (i := 106) rfl rfl
theorem aw_411 : Cond.static yX7_needRange ∈ AW := aw_of2 (i := 107) rfl rfl
theorem aw_412 : Cond.code yX7_needRange prog_1_method_22_code 3 (none : Option Jvm.ClassFile.FieldType) ∈ AW := aw_of2 (i := 108) rfl rfl
theorem aw_413 : Cond.classLink "RejudgeHall" 295 "java/lang/IllegalArgumentException" ∈ AW := aw_of2 (i := 109) rfl rfl
theorem aw_414 : Cond.instantiable "java/lang/IllegalArgumentException" 6 ∈ AW := aw_of2 (i := 110) rfl rfl
theorem aw_415 : Cond.castable "java/lang/IllegalArgumentException" "java/lang/IllegalArgumentException" ∈ AW := aw_of2 (i := 111) rfl rfl
theorem aw_416 : Cond.declares ⟨"java/lang/RuntimeException", "<init>", "()V"⟩ ∈ AW := aw_of2 (i := 112) rfl rfl
theorem aw_417 : Cond.declares ⟨"java/lang/RuntimeException", "<init>", "(Ljava/lang/String;)V"⟩ ∈ AW := aw_of2 (i := 113) rfl rfl
theorem aw_418 : Cond.declares ⟨"java/lang/Exception", "<init>", "()V"⟩ ∈ AW := aw_of2 (i := 114) rfl rfl
theorem aw_419 : Cond.declares ⟨"java/lang/Exception", "<init>", "(Ljava/lang/String;)V"⟩ ∈ AW := aw_of2 (i := 115) rfl rfl
theorem aw_420 : Cond.declares ⟨"java/lang/Throwable", "<init>", "()V"⟩ ∈ AW := aw_of2 (i := 116) rfl rfl
theorem aw_421 : Cond.declares ⟨"java/lang/Throwable", "<init>", "(Ljava/lang/String;)V"⟩ ∈ AW := aw_of2 (i := 117) rfl rfl
theorem aw_422 : Cond.selects "java/lang/IllegalArgumentException" ⟨"java/lang/Throwable", "fillInStackTrace", "(I)Ljava/lang/Throwable;"⟩ ⟨"java/lang/Throwable", "fillInStackTrace", "(I)Ljava/lang/Throwable;"⟩ ∈ AW := aw_of2 (i := 118) rfl rfl
theorem aw_423 : Cond.selects "java/lang/IllegalArgumentException" ⟨"java/lang/Throwable", "fillInStackTrace", "()Ljava/lang/Throwable;"⟩ ⟨"java/lang/Throwable", "fillInStackTrace", "()Ljava/lang/Throwable;"⟩ ∈ AW := aw_of2 (i := 119) rfl rfl
theorem aw_434 : Cond.fieldLink "java/lang/Throwable" 198 "java/lang/Throwable" "backtrace" "Ljava/lang/Object;" ∈ AW := aw_of2 (i := 130) rfl rfl
theorem aw_436 : Cond.instanceMethod ⟨"java/lang/Throwable", "<init>", "()V"⟩ ∈ AW := aw_of2 (i := 132) rfl rfl
theorem aw_437 : Cond.code ⟨"java/lang/Throwable", "<init>", "()V"⟩ prog_22_method_1_code 1 (none : Option Jvm.ClassFile.FieldType) ∈ AW := aw_of2 (i := 133) rfl rfl
theorem aw_438 : Cond.methodLink "java/lang/Throwable" 1 ⟨"java/lang/Object", "<init>", "()V"⟩ ∈ AW := aw_of2 (i := 134) rfl rfl
theorem aw_439 : Cond.fieldLink "java/lang/Throwable" 13 "java/lang/Throwable" "UNASSIGNED_STACK" "[Ljava/lang/StackTraceElement;" ∈ AW := aw_of2 (i := 135) rfl rfl
theorem aw_441 : Cond.fieldLink "java/lang/Throwable" 20 "java/lang/Throwable" "SUPPRESSED_SENTINEL" "Ljava/util/List;" ∈ AW := aw_of2 (i := 137) rfl rfl
theorem aw_443 : Cond.methodLink "java/lang/Throwable" 27 ⟨"java/lang/Throwable", "fillInStackTrace", "()Ljava/lang/Throwable;"⟩ ∈ AW := aw_of2 (i := 139) rfl rfl
theorem aw_444 : Cond.instanceMethod ⟨"java/lang/Throwable", "fillInStackTrace", "()Ljava/lang/Throwable;"⟩ ∈ AW := aw_of2 (i := 140) rfl rfl
theorem aw_446 : Cond.selects "java/lang/IllegalStateException" ⟨"java/lang/Throwable", "fillInStackTrace", "()Ljava/lang/Throwable;"⟩ ⟨"java/lang/Throwable", "fillInStackTrace", "()Ljava/lang/Throwable;"⟩ ∈ AW := aw_of2 (i := 142) rfl rfl
theorem aw_447 : Cond.selects "java/lang/IndexOutOfBoundsException" ⟨"java/lang/Throwable", "fillInStackTrace", "()Ljava/lang/Throwable;"⟩ ⟨"java/lang/Throwable", "fillInStackTrace", "()Ljava/lang/Throwable;"⟩ ∈ AW := aw_of2 (i := 143) rfl rfl
theorem aw_449 : Cond.methodLink "java/lang/Throwable" 202 ⟨"java/lang/Throwable", "fillInStackTrace", "(I)Ljava/lang/Throwable;"⟩ ∈ AW := aw_of2 (i := 145) rfl rfl
theorem aw_451 : Cond.instanceMethod ⟨"java/lang/Throwable", "fillInStackTrace", "(I)Ljava/lang/Throwable;"⟩ ∈ AW := aw_of2 (i := 147) rfl rfl
theorem aw_452 : Cond.instantiable "java/lang/Throwable" 6 ∈ AW := aw_of2 (i := 148) rfl rfl
theorem aw_453 : Cond.native ⟨"java/lang/Throwable", "fillInStackTrace", "(I)Ljava/lang/Throwable;"⟩ ∈ AW := aw_of2 (i := 149) rfl rfl
theorem aw_455 : Cond.methodLink "RejudgeHall" 299 ⟨"java/lang/IllegalArgumentException", "<init>", "(Ljava/lang/String;)V"⟩ ∈ AW := aw_of2 (i := 151) rfl rfl
theorem aw_456 : Cond.instanceMethod ⟨"java/lang/IllegalArgumentException", "<init>", "(Ljava/lang/String;)V"⟩ ∈ AW := aw_of2 (i := 152) rfl rfl
theorem aw_457 : Cond.code ⟨"java/lang/IllegalArgumentException", "<init>", "(Ljava/lang/String;)V"⟩ prog_14_method_2_code 2 (none : Option Jvm.ClassFile.FieldType) ∈ AW := aw_of2 (i := 153) rfl rfl
theorem aw_458 : Cond.methodLink "java/lang/IllegalArgumentException" 7 ⟨"java/lang/RuntimeException", "<init>", "(Ljava/lang/String;)V"⟩ ∈ AW := aw_of2 (i := 154) rfl rfl
theorem aw_459 : Cond.instanceMethod ⟨"java/lang/RuntimeException", "<init>", "(Ljava/lang/String;)V"⟩ ∈ AW := aw_of2 (i := 155) rfl rfl
theorem aw_460 : Cond.code ⟨"java/lang/RuntimeException", "<init>", "(Ljava/lang/String;)V"⟩ prog_19_method_2_code 2 (none : Option Jvm.ClassFile.FieldType) ∈ AW := aw_of2 (i := 156) rfl rfl
theorem aw_461 : Cond.methodLink "java/lang/RuntimeException" 7 ⟨"java/lang/Exception", "<init>", "(Ljava/lang/String;)V"⟩ ∈ AW := aw_of2 (i := 157) rfl rfl
theorem aw_462 : Cond.instanceMethod ⟨"java/lang/Exception", "<init>", "(Ljava/lang/String;)V"⟩ ∈ AW := aw_of2 (i := 158) rfl rfl
theorem aw_463 : Cond.code ⟨"java/lang/Exception", "<init>", "(Ljava/lang/String;)V"⟩ prog_13_method_2_code 2 (none : Option Jvm.ClassFile.FieldType) ∈ AW := aw_of2 (i := 159) rfl rfl
theorem aw_464 : Cond.methodLink "java/lang/Exception" 7 ⟨"java/lang/Throwable", "<init>", "(Ljava/lang/String;)V"⟩ ∈ AW := aw_of2 (i := 160) rfl rfl
theorem aw_465 : Cond.instanceMethod ⟨"java/lang/Throwable", "<init>", "(Ljava/lang/String;)V"⟩ ∈ AW := aw_of2 (i := 161) rfl rfl
theorem aw_466 : Cond.code ⟨"java/lang/Throwable", "<init>", "(Ljava/lang/String;)V"⟩ prog_22_method_2_code 2 (none : Option Jvm.ClassFile.FieldType) ∈ AW := aw_of2 (i := 162) rfl rfl
theorem aw_467 : Cond.fieldLink "java/lang/Throwable" 198 "java/lang/Throwable" "backtrace" "Ljava/lang/Object;" ∈ AW := aw_of2 (i := 163) rfl rfl
theorem aw_468 : Cond.fieldLink "java/lang/Throwable" 31 "java/lang/Throwable" "detailMessage" "Ljava/lang/String;" ∈ AW := aw_of2 (i := 164) rfl rfl
theorem aw_469 : Cond.fieldLink "java/lang/Throwable" 7 "java/lang/Throwable" "cause" "Ljava/lang/Throwable;" ∈ AW := aw_of2 (i := 165) rfl rfl
theorem aw_470 : Cond.fieldLink "java/lang/Throwable" 17 "java/lang/Throwable" "stackTrace" "[Ljava/lang/StackTraceElement;" ∈ AW := aw_of2 (i := 166) rfl rfl
theorem aw_471 : Cond.fieldLink "java/lang/Throwable" 24 "java/lang/Throwable" "suppressedExceptions" "Ljava/util/List;" ∈ AW := aw_of2 (i := 167) rfl rfl
theorem aw_480 : Cond.arrayClass .byte ∈ AW := aw_of2 (i := 176) rfl rfl
theorem aw_481 : Cond.classLink "RejudgeHall" 75 "java/lang/IllegalStateException" ∈ AW := aw_of2 (i := 177) rfl rfl
theorem aw_482 : Cond.instantiable "java/lang/IllegalStateException" 6 ∈ AW := aw_of2 (i := 178) rfl rfl
theorem aw_483 : Cond.castable "java/lang/IllegalStateException" "java/lang/IllegalStateException" ∈ AW := aw_of2 (i := 179) rfl rfl
theorem aw_484 : Cond.selects "java/lang/IllegalStateException" ⟨"java/lang/Throwable", "fillInStackTrace", "(I)Ljava/lang/Throwable;"⟩ ⟨"java/lang/Throwable", "fillInStackTrace", "(I)Ljava/lang/Throwable;"⟩ ∈ AW := aw_of2 (i := 180) rfl rfl
theorem aw_491 : Cond.methodLink "RejudgeHall" 79 ⟨"java/lang/IllegalStateException", "<init>", "(Ljava/lang/String;)V"⟩ ∈ AW := aw_of2 (i := 187) rfl rfl
theorem aw_492 : Cond.instanceMethod ⟨"java/lang/IllegalStateException", "<init>", "(Ljava/lang/String;)V"⟩ ∈ AW := aw_of2 (i := 188) rfl rfl
theorem aw_493 : Cond.code ⟨"java/lang/IllegalStateException", "<init>", "(Ljava/lang/String;)V"⟩ prog_15_method_2_code 2 (none : Option Jvm.ClassFile.FieldType) ∈ AW := aw_of2 (i := 189) rfl rfl
theorem aw_494 : Cond.methodLink "java/lang/IllegalStateException" 7 ⟨"java/lang/RuntimeException", "<init>", "(Ljava/lang/String;)V"⟩ ∈ AW := aw_of2 (i := 190) rfl rfl
theorem aw_497 : Cond.methodLinkNest "RejudgeHall" 82 yX3_append "RejudgeHall" ∈ AW := aw_of2 (i := 193) rfl rfl
theorem aw_499 : Cond.instanceMethod yX3_append ∈ AW := aw_of2 (i := 195) rfl rfl
theorem aw_500 : Cond.code yX3_append prog_5_method_2_code 3 (none : Option Jvm.ClassFile.FieldType) ∈ AW := aw_of2 (i := 196) rfl rfl
theorem aw_501 : Cond.methodLink "RejudgeHallLaw" 86 yL_input ∈ AW := aw_of2 (i := 197) rfl rfl
theorem aw_502 : Cond.static yL_input ∈ AW := aw_of2 (i := 198) rfl rfl
theorem aw_503 : Cond.codeWith yL_input method_4_code 4 (some .int) [(0, 9, 12, 13), (0, 9, 15, 15)] ∈ AW := aw_of2 (i := 199) rfl rfl
theorem aw_504 : Cond.methodLink "RejudgeHallLaw" 17 yX7_input ∈ AW := aw_of2 (i := 200) rfl rfl
theorem aw_505 : Cond.instanceMethod yX7_input ∈ AW := aw_of2 (i := 201) rfl rfl
theorem aw_506 : Cond.selects "RejudgeHall" yX7_input yX7_input ∈ AW := aw_of2 (i := 202) rfl rfl
theorem aw_507 : Cond.code yX7_input prog_1_method_3_code 2 (some .int) ∈ AW := aw_of2 (i := 203) rfl rfl
theorem aw_509 : Cond.methodLinkNest "RejudgeHall" 89 yX4_push "RejudgeHall" ∈ AW := aw_of2 (i := 205) rfl rfl
theorem aw_510 : Cond.methodLink "RejudgeHallLaw" 94 yL_run ∈ AW := aw_of2 (i := 206) rfl rfl
theorem aw_511 : Cond.static yL_run ∈ AW := aw_of2 (i := 207) rfl rfl
theorem aw_512 : Cond.codeWith yL_run method_5_code 5 (some .int) [(0, 10, 13, 13)] ∈ AW := aw_of2 (i := 208) rfl rfl
theorem aw_513 : Cond.methodLink "RejudgeHallLaw" 21 yX7_run ∈ AW := aw_of2 (i := 209) rfl rfl
theorem aw_514 : Cond.instanceMethod yX7_run ∈ AW := aw_of2 (i := 210) rfl rfl
theorem aw_515 : Cond.selects "RejudgeHall" yX7_run yX7_run ∈ AW := aw_of2 (i := 211) rfl rfl
theorem aw_516 : Cond.code yX7_run prog_1_method_5_code 4 (some .int) ∈ AW := aw_of2 (i := 212) rfl rfl
theorem aw_517 : Cond.methodLinkNest "RejudgeHall" 103 yX4_at "RejudgeHall" ∈ AW := aw_of2 (i := 213) rfl rfl
theorem aw_518 : Cond.methodLink "RejudgeHallLaw" 97 yL_problem ∈ AW := aw_of2 (i := 214) rfl rfl
theorem aw_519 : Cond.static yL_problem ∈ AW := aw_of2 (i := 215) rfl rfl
theorem aw_520 : Cond.codeWith yL_problem method_6_code 5 (some .int) [(0, 10, 13, 13), (0, 10, 17, 15)] ∈ AW := aw_of2 (i := 216) rfl rfl
theorem aw_521 : Cond.methodLink "RejudgeHallLaw" 24 yX7_problem ∈ AW := aw_of2 (i := 217) rfl rfl
theorem aw_522 : Cond.instanceMethod yX7_problem ∈ AW := aw_of2 (i := 218) rfl rfl
theorem aw_523 : Cond.selects "RejudgeHall" yX7_problem yX7_problem ∈ AW := aw_of2 (i := 219) rfl rfl
theorem aw_524 : Cond.code yX7_problem prog_1_method_6_code 4 (some .int) ∈ AW := aw_of2 (i := 220) rfl rfl
theorem aw_526 : Cond.classLink "RejudgeHall" 113 "RejudgeHall$Problem" ∈ AW := aw_of2 (i := 222) rfl rfl
theorem aw_527 : Cond.methodLinkNest "RejudgeHall" 115 yX2_init "RejudgeHall" ∈ AW := aw_of2 (i := 223) rfl rfl
theorem aw_528 : Cond.instanceMethod yX2_init ∈ AW := aw_of2 (i := 224) rfl rfl
theorem aw_529 : Cond.code yX2_init prog_4_method_1_code 4 (none : Option Jvm.ClassFile.FieldType) ∈ AW := aw_of2 (i := 225) rfl rfl
theorem aw_530 : Cond.methodLink "RejudgeHall$Problem" 3 ⟨"java/lang/Object", "<init>", "()V"⟩ ∈ AW := aw_of2 (i := 226) rfl rfl
theorem aw_531 : Cond.classLink "RejudgeHall$Problem" 9 "RejudgeHall$Program" ∈ AW := aw_of2 (i := 227) rfl rfl
theorem aw_532 : Cond.methodLinkNest "RejudgeHall$Problem" 11 yX3_init "RejudgeHall" ∈ AW := aw_of2 (i := 228) rfl rfl
theorem aw_533 : Cond.classLink "RejudgeHall$Problem" 18 "java/util/ArrayList" ∈ AW := aw_of2 (i := 229) rfl rfl
theorem aw_534 : Cond.methodLink "RejudgeHall$Problem" 20 yJx4a65c_init_da8c8 ∈ AW := aw_of2 (i := 230) rfl rfl
theorem aw_535 : Cond.methodLink "RejudgeHall$Problem" 42 yJ7_fill_53178 ∈ AW := aw_of2 (i := 231) rfl rfl
theorem aw_536 : Cond.fieldLink "RejudgeHall$Problem" 33 "RejudgeHall$Problem" "number" "I" ∈ AW := aw_of2 (i := 232) rfl rfl
theorem aw_537 : Cond.fieldLinkNest "RejudgeHall$Standings" 44 "RejudgeHall$Problem" "number" "I" "RejudgeHall" ∈ AW := aw_of2 (i := 233) rfl rfl
theorem aw_538 : Cond.fieldLinkNest "RejudgeHall" 128 "RejudgeHall$Problem" "number" "I" "RejudgeHall" ∈ AW := aw_of2 (i := 234) rfl rfl
theorem aw_539 : Cond.fieldLink "RejudgeHall$Problem" 36 "RejudgeHall$Problem" "limit" "I" ∈ AW := aw_of2 (i := 235) rfl rfl
theorem aw_540 : Cond.fieldLinkNest "RejudgeHall" 309 "RejudgeHall$Problem" "limit" "I" "RejudgeHall" ∈ AW := aw_of2 (i := 236) rfl rfl
theorem aw_541 : Cond.fieldLink "RejudgeHall$Problem" 12 "RejudgeHall$Problem" "solution" "LRejudgeHall$Program;" ∈ AW := aw_of2 (i := 237) rfl rfl
theorem aw_542 : Cond.fieldLinkNest "RejudgeHall" 117 "RejudgeHall$Problem" "solution" "LRejudgeHall$Program;" "RejudgeHall" ∈ AW := aw_of2 (i := 238) rfl rfl
theorem aw_543 : Cond.fieldLink "RejudgeHall$Problem" 21 "RejudgeHall$Problem" "trials" "Ljava/util/ArrayList;" ∈ AW := aw_of2 (i := 239) rfl rfl
theorem aw_544 : Cond.fieldLinkNest "RejudgeHall" 138 "RejudgeHall$Problem" "trials" "Ljava/util/ArrayList;" "RejudgeHall" ∈ AW := aw_of3 (i := 0) rfl rfl
theorem aw_545 : Cond.fieldLink "RejudgeHall$Problem" 25 "RejudgeHall$Problem" "points" "[I" ∈ AW := aw_of3 (i := 1) rfl rfl
theorem aw_546 : Cond.fieldLinkNest "RejudgeHall" 158 "RejudgeHall$Problem" "points" "[I" "RejudgeHall" ∈ AW := aw_of3 (i := 2) rfl rfl
theorem aw_547 : Cond.fieldLink "RejudgeHall$Problem" 39 "RejudgeHall$Problem" "checker" "I" ∈ AW := aw_of3 (i := 3) rfl rfl
theorem aw_548 : Cond.fieldLinkNest "RejudgeHall" 171 "RejudgeHall$Problem" "checker" "I" "RejudgeHall" ∈ AW := aw_of3 (i := 4) rfl rfl
theorem aw_549 : Cond.fieldLink "RejudgeHall$Problem" 29 "RejudgeHall$Problem" "version" "I" ∈ AW := aw_of3 (i := 5) rfl rfl
theorem aw_550 : Cond.fieldLinkNest "RejudgeHall" 174 "RejudgeHall$Problem" "version" "I" "RejudgeHall" ∈ AW := aw_of3 (i := 6) rfl rfl
theorem aw_566 : Cond.methodLinkNest "RejudgeHall" 120 yX3_takeFrom "RejudgeHall" ∈ AW := aw_of3 (i := 22) rfl rfl
theorem aw_568 : Cond.instanceMethod yX3_takeFrom ∈ AW := aw_of3 (i := 24) rfl rfl
theorem aw_569 : Cond.code yX3_takeFrom prog_5_method_3_code 2 (none : Option Jvm.ClassFile.FieldType) ∈ AW := aw_of3 (i := 25) rfl rfl
theorem aw_570 : Cond.methodLink "RejudgeHall$Program" 22 ⟨"java/lang/System", "arraycopy", "(Ljava/lang/Object;ILjava/lang/Object;II)V"⟩ ∈ AW := aw_of3 (i := 26) rfl rfl
theorem aw_571 : Cond.static ⟨"java/lang/System", "arraycopy", "(Ljava/lang/Object;ILjava/lang/Object;II)V"⟩ ∈ AW := aw_of3 (i := 27) rfl rfl
theorem aw_572 : Cond.native ⟨"java/lang/System", "arraycopy", "(Ljava/lang/Object;ILjava/lang/Object;II)V"⟩ ∈ AW := aw_of3 (i := 28) rfl rfl
theorem aw_573 : Cond.methodLink "RejudgeHall" 124 yJx4a65c_add_9ea2d ∈ AW := aw_of3 (i := 29) rfl rfl
theorem aw_574 : Cond.instanceMethod yJx4a65c_add_9ea2d ∈ AW := aw_of3 (i := 30) rfl rfl
theorem aw_575 : Cond.selects "java/util/ArrayList" yJx4a65c_add_9ea2d yJx4a65c_add_9ea2d ∈ AW := aw_of3 (i := 31) rfl rfl
theorem aw_576 : Cond.code yJx4a65c_add_9ea2d prog_25_method_25_code 2 (some .boolean) ∈ AW := aw_of3 (i := 32) rfl rfl
theorem aw_577 : Cond.methodLink "java/util/ArrayList" 131 yJx4a65c_add_72be8 ∈ AW := aw_of3 (i := 33) rfl rfl
theorem aw_579 : Cond.instanceMethod yJx4a65c_add_72be8 ∈ AW := aw_of3 (i := 35) rfl rfl
theorem aw_580 : Cond.code yJx4a65c_add_72be8 prog_25_method_24_code 4 (none : Option Jvm.ClassFile.FieldType) ∈ AW := aw_of3 (i := 36) rfl rfl
theorem aw_581 : Cond.methodLink "java/util/ArrayList" 129 yJx4a65c_grow_d5877 ∈ AW := aw_of3 (i := 37) rfl rfl
theorem aw_583 : Cond.instanceMethod yJx4a65c_grow_d5877 ∈ AW := aw_of3 (i := 39) rfl rfl
theorem aw_584 : Cond.code yJx4a65c_grow_d5877 prog_25_method_7_code 1 (some (.array (.object "java/lang/Object"))) ∈ AW := aw_of3 (i := 40) rfl rfl
theorem aw_585 : Cond.methodLink "java/util/ArrayList" 69 yJx4a65c_grow_92f84 ∈ AW := aw_of3 (i := 41) rfl rfl
theorem aw_587 : Cond.instanceMethod yJx4a65c_grow_92f84 ∈ AW := aw_of3 (i := 43) rfl rfl
theorem aw_588 : Cond.code yJx4a65c_grow_92f84 prog_25_method_6_code 4 (some (.array (.object "java/lang/Object"))) ∈ AW := aw_of3 (i := 44) rfl rfl
theorem aw_589 : Cond.methodLink "java/util/ArrayList" 73 yJ8_newLength_cabcc ∈ AW := aw_of3 (i := 45) rfl rfl
theorem aw_590 : Cond.static yJ8_newLength_cabcc ∈ AW := aw_of3 (i := 46) rfl rfl
theorem aw_591 : Cond.code yJ8_newLength_cabcc prog_32_method_27_code 4 (some .int) ∈ AW := aw_of3 (i := 47) rfl rfl
theorem aw_592 : Cond.methodLink "jdk/internal/util/ArraysSupport" 194 yJ9_max_7cf53 ∈ AW := aw_of3 (i := 48) rfl rfl
theorem aw_593 : Cond.constant "jdk/internal/util/ArraysSupport" 200 (2147483639 : Int32) ∈ AW := aw_of3 (i := 49) rfl rfl
theorem aw_594 : Cond.methodLink "jdk/internal/util/ArraysSupport" 201 yJ8_hugeLength_7cf53 ∈ AW := aw_of3 (i := 50) rfl rfl
theorem aw_595 : Cond.static yJ8_hugeLength_7cf53 ∈ AW := aw_of3 (i := 51) rfl rfl
theorem aw_596 : Cond.code yJ8_hugeLength_7cf53 prog_32_method_28_code 3 (some .int) ∈ AW := aw_of3 (i := 52) rfl rfl
theorem aw_597 : Cond.methodLink "java/util/ArrayList" 66 yJ7_copyOf_1904c ∈ AW := aw_of3 (i := 53) rfl rfl
theorem aw_598 : Cond.static yJ7_copyOf_1904c ∈ AW := aw_of3 (i := 54) rfl rfl
theorem aw_599 : Cond.code yJ7_copyOf_1904c prog_26_method_119_code 2 (some (.array (.object "java/lang/Object"))) ∈ AW := aw_of3 (i := 55) rfl rfl
theorem aw_600 : Cond.methodLink "java/util/Arrays" 86 ⟨"java/lang/Object", "getClass", "()Ljava/lang/Class;"⟩ ∈ AW := aw_of3 (i := 56) rfl rfl
theorem aw_601 : Cond.instanceMethod ⟨"java/lang/Object", "getClass", "()Ljava/lang/Class;"⟩ ∈ AW := aw_of3 (i := 57) rfl rfl
theorem aw_603 : Cond.selects "RejudgeHall" ⟨"java/lang/Object", "getClass", "()Ljava/lang/Class;"⟩ ⟨"java/lang/Object", "getClass", "()Ljava/lang/Class;"⟩ ∈ AW := aw_of3 (i := 59) rfl rfl
theorem aw_604 : Cond.selects "RejudgeHall$Entry" ⟨"java/lang/Object", "getClass", "()Ljava/lang/Class;"⟩ ⟨"java/lang/Object", "getClass", "()Ljava/lang/Class;"⟩ ∈ AW := aw_of3 (i := 60) rfl rfl
theorem aw_605 : Cond.selects "RejudgeHall$Machine" ⟨"java/lang/Object", "getClass", "()Ljava/lang/Class;"⟩ ⟨"java/lang/Object", "getClass", "()Ljava/lang/Class;"⟩ ∈ AW := aw_of3 (i := 61) rfl rfl
theorem aw_606 : Cond.selects "RejudgeHall$Problem" ⟨"java/lang/Object", "getClass", "()Ljava/lang/Class;"⟩ ⟨"java/lang/Object", "getClass", "()Ljava/lang/Class;"⟩ ∈ AW := aw_of3 (i := 62) rfl rfl
theorem aw_607 : Cond.selects "RejudgeHall$Program" ⟨"java/lang/Object", "getClass", "()Ljava/lang/Class;"⟩ ⟨"java/lang/Object", "getClass", "()Ljava/lang/Class;"⟩ ∈ AW := aw_of3 (i := 63) rfl rfl
theorem aw_608 : Cond.selects "RejudgeHall$Row" ⟨"java/lang/Object", "getClass", "()Ljava/lang/Class;"⟩ ⟨"java/lang/Object", "getClass", "()Ljava/lang/Class;"⟩ ∈ AW := aw_of3 (i := 64) rfl rfl
theorem aw_609 : Cond.selects "RejudgeHall$Standings" ⟨"java/lang/Object", "getClass", "()Ljava/lang/Class;"⟩ ⟨"java/lang/Object", "getClass", "()Ljava/lang/Class;"⟩ ∈ AW := aw_of3 (i := 65) rfl rfl
theorem aw_610 : Cond.selects "RejudgeHall$Trial" ⟨"java/lang/Object", "getClass", "()Ljava/lang/Class;"⟩ ⟨"java/lang/Object", "getClass", "()Ljava/lang/Class;"⟩ ∈ AW := aw_of3 (i := 66) rfl rfl
theorem aw_611 : Cond.selects "RejudgeHallModel" ⟨"java/lang/Object", "getClass", "()Ljava/lang/Class;"⟩ ⟨"java/lang/Object", "getClass", "()Ljava/lang/Class;"⟩ ∈ AW := aw_of3 (i := 67) rfl rfl
theorem aw_612 : Cond.selects "java/lang/IllegalArgumentException" ⟨"java/lang/Object", "getClass", "()Ljava/lang/Class;"⟩ ⟨"java/lang/Object", "getClass", "()Ljava/lang/Class;"⟩ ∈ AW := aw_of3 (i := 68) rfl rfl
theorem aw_613 : Cond.selects "java/lang/IllegalStateException" ⟨"java/lang/Object", "getClass", "()Ljava/lang/Class;"⟩ ⟨"java/lang/Object", "getClass", "()Ljava/lang/Class;"⟩ ∈ AW := aw_of3 (i := 69) rfl rfl
theorem aw_614 : Cond.selects "java/lang/IndexOutOfBoundsException" ⟨"java/lang/Object", "getClass", "()Ljava/lang/Class;"⟩ ⟨"java/lang/Object", "getClass", "()Ljava/lang/Class;"⟩ ∈ AW := aw_of3 (i := 70) rfl rfl
theorem aw_615 : Cond.selects "java/util/ArrayList" ⟨"java/lang/Object", "getClass", "()Ljava/lang/Class;"⟩ ⟨"java/lang/Object", "getClass", "()Ljava/lang/Class;"⟩ ∈ AW := aw_of3 (i := 71) rfl rfl
theorem aw_616 : Cond.native ⟨"java/lang/Object", "getClass", "()Ljava/lang/Class;"⟩ ∈ AW := aw_of3 (i := 72) rfl rfl
theorem aw_617 : Cond.methodLink "java/util/Arrays" 300 yJ7_copyOf_6403c ∈ AW := aw_of3 (i := 73) rfl rfl
theorem aw_618 : Cond.static yJ7_copyOf_6403c ∈ AW := aw_of3 (i := 74) rfl rfl
theorem aw_619 : Cond.code yJ7_copyOf_6403c prog_26_method_120_code 4 (some (.array (.object "java/lang/Object"))) ∈ AW := aw_of3 (i := 75) rfl rfl
theorem aw_620 : Cond.classLink "java/util/Arrays" 110 "[Ljava/lang/Object;" ∈ AW := aw_of3 (i := 76) rfl rfl
theorem aw_622 : Cond.classLink "java/util/Arrays" 2 "java/lang/Object" ∈ AW := aw_of3 (i := 78) rfl rfl
theorem aw_623 : Cond.methodLink "java/util/Arrays" 304 yJ9_min_7cf53 ∈ AW := aw_of3 (i := 79) rfl rfl
theorem aw_624 : Cond.methodLink "java/util/Arrays" 150 ⟨"java/lang/System", "arraycopy", "(Ljava/lang/Object;ILjava/lang/Object;II)V"⟩ ∈ AW := aw_of3 (i := 80) rfl rfl
theorem aw_625 : Cond.methodLink "java/util/ArrayList" 79 yJ9_max_7cf53 ∈ AW := aw_of3 (i := 81) rfl rfl
theorem aw_626 : Cond.classLink "java/util/ArrayList" 7 "java/lang/Object" ∈ AW := aw_of3 (i := 82) rfl rfl
theorem aw_627 : Cond.methodLink "RejudgeHallLaw" 100 yL_test ∈ AW := aw_of3 (i := 83) rfl rfl
theorem aw_628 : Cond.static yL_test ∈ AW := aw_of3 (i := 84) rfl rfl
theorem aw_629 : Cond.codeWith yL_test method_7_code 5 (some .int) [(0, 10, 13, 30), (0, 10, 17, 15)] ∈ AW := aw_of3 (i := 85) rfl rfl
theorem aw_630 : Cond.classLink "RejudgeHallLaw" 30 "java/lang/IndexOutOfBoundsException" ∈ AW := aw_of3 (i := 86) rfl rfl
theorem aw_631 : Cond.methodLink "RejudgeHallLaw" 27 yX7_test ∈ AW := aw_of3 (i := 87) rfl rfl
theorem aw_632 : Cond.instanceMethod yX7_test ∈ AW := aw_of3 (i := 88) rfl rfl
theorem aw_633 : Cond.selects "RejudgeHall" yX7_test yX7_test ∈ AW := aw_of3 (i := 89) rfl rfl
theorem aw_634 : Cond.code yX7_test prog_1_method_7_code 4 (some .int) ∈ AW := aw_of3 (i := 90) rfl rfl
theorem aw_635 : Cond.methodLink "RejudgeHall" 131 yX7_problemAt ∈ AW := aw_of3 (i := 91) rfl rfl
theorem aw_637 : Cond.instanceMethod yX7_problemAt ∈ AW := aw_of3 (i := 93) rfl rfl
theorem aw_638 : Cond.code yX7_problemAt prog_1_method_24_code 2 (some (.object "RejudgeHall$Problem")) ∈ AW := aw_of3 (i := 94) rfl rfl
theorem aw_639 : Cond.methodLink "RejudgeHall" 135 yX7_needIndex ∈ AW := aw_of3 (i := 95) rfl rfl
theorem aw_640 : Cond.static yX7_needIndex ∈ AW := aw_of3 (i := 96) rfl rfl
theorem aw_641 : Cond.code yX7_needIndex prog_1_method_23_code 2 (none : Option Jvm.ClassFile.FieldType) ∈ AW := aw_of3 (i := 97) rfl rfl
theorem aw_642 : Cond.classLink "RejudgeHall" 177 "java/lang/IndexOutOfBoundsException" ∈ AW := aw_of3 (i := 98) rfl rfl
theorem aw_643 : Cond.instantiable "java/lang/IndexOutOfBoundsException" 6 ∈ AW := aw_of3 (i := 99) rfl rfl
theorem aw_644 : Cond.castable "java/lang/IndexOutOfBoundsException" "java/lang/IndexOutOfBoundsException" ∈ AW := aw_of3 (i := 100) rfl rfl
theorem aw_645 : Cond.selects "java/lang/IndexOutOfBoundsException" ⟨"java/lang/Throwable", "fillInStackTrace", "(I)Ljava/lang/Throwable;"⟩ ⟨"java/lang/Throwable", "fillInStackTrace", "(I)Ljava/lang/Throwable;"⟩ ∈ AW := aw_of3 (i := 101) rfl rfl
theorem aw_652 : Cond.methodLink "RejudgeHall" 181 ⟨"java/lang/IndexOutOfBoundsException", "<init>", "(Ljava/lang/String;)V"⟩ ∈ AW := aw_of3 (i := 108) rfl rfl
theorem aw_653 : Cond.instanceMethod ⟨"java/lang/IndexOutOfBoundsException", "<init>", "(Ljava/lang/String;)V"⟩ ∈ AW := aw_of3 (i := 109) rfl rfl
theorem aw_654 : Cond.code ⟨"java/lang/IndexOutOfBoundsException", "<init>", "(Ljava/lang/String;)V"⟩ prog_16_method_2_code 2 (none : Option Jvm.ClassFile.FieldType) ∈ AW := aw_of3 (i := 110) rfl rfl
theorem aw_655 : Cond.methodLink "java/lang/IndexOutOfBoundsException" 7 ⟨"java/lang/RuntimeException", "<init>", "(Ljava/lang/String;)V"⟩ ∈ AW := aw_of3 (i := 111) rfl rfl
theorem aw_659 : Cond.methodLink "RejudgeHall" 143 yX7_findsAnswer ∈ AW := aw_of3 (i := 115) rfl rfl
theorem aw_661 : Cond.instanceMethod yX7_findsAnswer ∈ AW := aw_of3 (i := 117) rfl rfl
theorem aw_662 : Cond.code yX7_findsAnswer prog_1_method_26_code 3 (some .boolean) ∈ AW := aw_of3 (i := 118) rfl rfl
theorem aw_664 : Cond.instantiable "RejudgeHall$Trial" 3 ∈ AW := aw_of3 (i := 120) rfl rfl
theorem aw_665 : Cond.methodLinkNest "RejudgeHall" 151 yX6_init "RejudgeHall" ∈ AW := aw_of3 (i := 121) rfl rfl
theorem aw_666 : Cond.instanceMethod yX6_init ∈ AW := aw_of3 (i := 122) rfl rfl
theorem aw_667 : Cond.code yX6_init prog_8_method_1_code 4 (none : Option Jvm.ClassFile.FieldType) ∈ AW := aw_of3 (i := 123) rfl rfl
theorem aw_668 : Cond.methodLink "RejudgeHall$Trial" 1 ⟨"java/lang/Object", "<init>", "()V"⟩ ∈ AW := aw_of3 (i := 124) rfl rfl
theorem aw_669 : Cond.classLink "RejudgeHall$Trial" 7 "RejudgeHall$Row" ∈ AW := aw_of3 (i := 125) rfl rfl
theorem aw_670 : Cond.methodLinkNest "RejudgeHall$Trial" 9 yX4_init "RejudgeHall" ∈ AW := aw_of3 (i := 126) rfl rfl
theorem aw_671 : Cond.methodLinkNest "RejudgeHall$Trial" 19 yX4_copyFrom "RejudgeHall" ∈ AW := aw_of3 (i := 127) rfl rfl
theorem aw_673 : Cond.instanceMethod yX4_copyFrom ∈ AW := aw_of3 (i := 129) rfl rfl
theorem aw_674 : Cond.code yX4_copyFrom prog_6_method_6_code 2 (none : Option Jvm.ClassFile.FieldType) ∈ AW := aw_of3 (i := 130) rfl rfl
theorem aw_675 : Cond.methodLink "RejudgeHall$Row" 19 ⟨"java/lang/System", "arraycopy", "(Ljava/lang/Object;ILjava/lang/Object;II)V"⟩ ∈ AW := aw_of3 (i := 131) rfl rfl
theorem aw_676 : Cond.fieldLink "RejudgeHall$Trial" 10 "RejudgeHall$Trial" "input" "LRejudgeHall$Row;" ∈ AW := aw_of3 (i := 132) rfl rfl
theorem aw_677 : Cond.fieldLinkNest "RejudgeHall" 302 "RejudgeHall$Trial" "input" "LRejudgeHall$Row;" "RejudgeHall" ∈ AW := aw_of3 (i := 133) rfl rfl
theorem aw_678 : Cond.fieldLink "RejudgeHall$Trial" 16 "RejudgeHall$Trial" "answer" "LRejudgeHall$Row;" ∈ AW := aw_of3 (i := 134) rfl rfl
theorem aw_679 : Cond.fieldLinkNest "RejudgeHall" 186 "RejudgeHall$Trial" "answer" "LRejudgeHall$Row;" "RejudgeHall" ∈ AW := aw_of3 (i := 135) rfl rfl
theorem aw_680 : Cond.fieldLink "RejudgeHall$Trial" 23 "RejudgeHall$Trial" "group" "I" ∈ AW := aw_of3 (i := 136) rfl rfl
theorem aw_681 : Cond.fieldLinkNest "RejudgeHall" 316 "RejudgeHall$Trial" "group" "I" "RejudgeHall" ∈ AW := aw_of3 (i := 137) rfl rfl
theorem aw_689 : Cond.methodLinkNest "RejudgeHall" 154 yX2_addTrial "RejudgeHall" ∈ AW := aw_of3 (i := 145) rfl rfl
theorem aw_691 : Cond.instanceMethod yX2_addTrial ∈ AW := aw_of3 (i := 147) rfl rfl
theorem aw_692 : Cond.code yX2_addTrial prog_4_method_2_code 2 (none : Option Jvm.ClassFile.FieldType) ∈ AW := aw_of3 (i := 148) rfl rfl
theorem aw_693 : Cond.methodLink "RejudgeHall$Problem" 48 yJx4a65c_add_9ea2d ∈ AW := aw_of3 (i := 149) rfl rfl
theorem aw_694 : Cond.methodLink "RejudgeHallLaw" 103 yL_points ∈ AW := aw_of3 (i := 150) rfl rfl
theorem aw_695 : Cond.static yL_points ∈ AW := aw_of3 (i := 151) rfl rfl
theorem aw_696 : Cond.codeWith yL_points method_8_code 6 (some .int) [(0, 12, 15, 30), (0, 12, 19, 13)] ∈ AW := aw_of3 (i := 152) rfl rfl
theorem aw_697 : Cond.methodLink "RejudgeHallLaw" 32 yX7_points ∈ AW := aw_of3 (i := 153) rfl rfl
theorem aw_698 : Cond.instanceMethod yX7_points ∈ AW := aw_of3 (i := 154) rfl rfl
theorem aw_699 : Cond.selects "RejudgeHall" yX7_points yX7_points ∈ AW := aw_of3 (i := 155) rfl rfl
theorem aw_700 : Cond.code yX7_points prog_1_method_8_code 6 (some .int) ∈ AW := aw_of3 (i := 156) rfl rfl
theorem aw_701 : Cond.methodLink "RejudgeHallLaw" 107 yL_mend ∈ AW := aw_of3 (i := 157) rfl rfl
theorem aw_702 : Cond.static yL_mend ∈ AW := aw_of3 (i := 158) rfl rfl
theorem aw_703 : Cond.codeWith yL_mend method_9_code 5 (some .int) [(0, 10, 13, 30), (0, 10, 17, 13), (0, 10, 21, 15)] ∈ AW := aw_of3 (i := 159) rfl rfl
theorem aw_704 : Cond.methodLink "RejudgeHallLaw" 36 yX7_mend ∈ AW := aw_of3 (i := 160) rfl rfl
theorem aw_705 : Cond.instanceMethod yX7_mend ∈ AW := aw_of3 (i := 161) rfl rfl
theorem aw_706 : Cond.selects "RejudgeHall" yX7_mend yX7_mend ∈ AW := aw_of3 (i := 162) rfl rfl
theorem aw_707 : Cond.code yX7_mend prog_1_method_9_code 4 (some .int) ∈ AW := aw_of3 (i := 163) rfl rfl
theorem aw_708 : Cond.methodLink "RejudgeHall" 161 yX7_findsAllAnswers ∈ AW := aw_of3 (i := 164) rfl rfl
theorem aw_710 : Cond.instanceMethod yX7_findsAllAnswers ∈ AW := aw_of3 (i := 166) rfl rfl
theorem aw_711 : Cond.code yX7_findsAllAnswers prog_1_method_27_code 4 (some .boolean) ∈ AW := aw_of3 (i := 167) rfl rfl
theorem aw_713 : Cond.methodLink "RejudgeHall" 167 yX7_renewAnswers ∈ AW := aw_of3 (i := 169) rfl rfl
theorem aw_715 : Cond.instanceMethod yX7_renewAnswers ∈ AW := aw_of3 (i := 171) rfl rfl
theorem aw_716 : Cond.code yX7_renewAnswers prog_1_method_28_code 4 (none : Option Jvm.ClassFile.FieldType) ∈ AW := aw_of3 (i := 172) rfl rfl
theorem aw_717 : Cond.methodLinkNest "RejudgeHall" 305 yX4_copyFrom "RejudgeHall" ∈ AW := aw_of3 (i := 173) rfl rfl
theorem aw_718 : Cond.methodLink "RejudgeHallLaw" 110 yL_answer ∈ AW := aw_of3 (i := 174) rfl rfl
theorem aw_719 : Cond.static yL_answer ∈ AW := aw_of3 (i := 175) rfl rfl
theorem aw_720 : Cond.codeWith yL_answer method_10_code 6 (some .int) [(0, 12, 15, 30)] ∈ AW := aw_of3 (i := 176) rfl rfl
theorem aw_721 : Cond.methodLink "RejudgeHallLaw" 39 yX7_answer ∈ AW := aw_of3 (i := 177) rfl rfl
theorem aw_722 : Cond.instanceMethod yX7_answer ∈ AW := aw_of3 (i := 178) rfl rfl
theorem aw_723 : Cond.selects "RejudgeHall" yX7_answer yX7_answer ∈ AW := aw_of3 (i := 179) rfl rfl
theorem aw_724 : Cond.code yX7_answer prog_1_method_10_code 5 (some .int) ∈ AW := aw_of3 (i := 180) rfl rfl
theorem aw_726 : Cond.methodLink "RejudgeHallLaw" 113 yL_enter ∈ AW := aw_of3 (i := 182) rfl rfl
theorem aw_727 : Cond.static yL_enter ∈ AW := aw_of3 (i := 183) rfl rfl
theorem aw_728 : Cond.codeWith yL_enter method_11_code 5 (some .int) [(0, 10, 13, 30), (0, 10, 17, 15)] ∈ AW := aw_of3 (i := 184) rfl rfl
theorem aw_729 : Cond.methodLink "RejudgeHallLaw" 42 yX7_enter ∈ AW := aw_of3 (i := 185) rfl rfl
theorem aw_730 : Cond.instanceMethod yX7_enter ∈ AW := aw_of3 (i := 186) rfl rfl
theorem aw_731 : Cond.selects "RejudgeHall" yX7_enter yX7_enter ∈ AW := aw_of3 (i := 187) rfl rfl
theorem aw_732 : Cond.code yX7_enter prog_1_method_11_code 5 (some .int) ∈ AW := aw_of3 (i := 188) rfl rfl
theorem aw_734 : Cond.methodLinkNest "RejudgeHall" 193 yX0_init "RejudgeHall" ∈ AW := aw_of3 (i := 190) rfl rfl
theorem aw_735 : Cond.instanceMethod yX0_init ∈ AW := aw_of3 (i := 191) rfl rfl
theorem aw_736 : Cond.code yX0_init prog_2_method_1_code 4 (none : Option Jvm.ClassFile.FieldType) ∈ AW := aw_of3 (i := 192) rfl rfl
theorem aw_737 : Cond.methodLink "RejudgeHall$Entry" 3 ⟨"java/lang/Object", "<init>", "()V"⟩ ∈ AW := aw_of3 (i := 193) rfl rfl
theorem aw_738 : Cond.classLink "RejudgeHall$Entry" 9 "RejudgeHall$Program" ∈ AW := aw_of3 (i := 194) rfl rfl
theorem aw_739 : Cond.methodLinkNest "RejudgeHall$Entry" 11 yX3_init "RejudgeHall" ∈ AW := aw_of3 (i := 195) rfl rfl
theorem aw_740 : Cond.fieldLink "RejudgeHall$Entry" 31 "RejudgeHall$Entry" "team" "I" ∈ AW := aw_of3 (i := 196) rfl rfl
theorem aw_741 : Cond.fieldLinkNest "RejudgeHall$Standings" 34 "RejudgeHall$Entry" "team" "I" "RejudgeHall" ∈ AW := aw_of3 (i := 197) rfl rfl
theorem aw_742 : Cond.fieldLinkNest "RejudgeHall" 205 "RejudgeHall$Entry" "team" "I" "RejudgeHall" ∈ AW := aw_of3 (i := 198) rfl rfl
theorem aw_743 : Cond.fieldLink "RejudgeHall$Entry" 34 "RejudgeHall$Entry" "problem" "LRejudgeHall$Problem;" ∈ AW := aw_of3 (i := 199) rfl rfl
theorem aw_744 : Cond.fieldLinkNest "RejudgeHall$Standings" 40 "RejudgeHall$Entry" "problem" "LRejudgeHall$Problem;" "RejudgeHall" ∈ AW := aw_of3 (i := 200) rfl rfl
theorem aw_745 : Cond.fieldLinkNest "RejudgeHall" 212 "RejudgeHall$Entry" "problem" "LRejudgeHall$Problem;" "RejudgeHall" ∈ AW := aw_of3 (i := 201) rfl rfl
theorem aw_746 : Cond.fieldLink "RejudgeHall$Entry" 38 "RejudgeHall$Entry" "minute" "I" ∈ AW := aw_of3 (i := 202) rfl rfl
theorem aw_747 : Cond.fieldLinkNest "RejudgeHall$Standings" 53 "RejudgeHall$Entry" "minute" "I" "RejudgeHall" ∈ AW := aw_of3 (i := 203) rfl rfl
theorem aw_748 : Cond.fieldLinkNest "RejudgeHall" 233 "RejudgeHall$Entry" "minute" "I" "RejudgeHall" ∈ AW := aw_of3 (i := 204) rfl rfl
theorem aw_749 : Cond.fieldLink "RejudgeHall$Entry" 12 "RejudgeHall$Entry" "program" "LRejudgeHall$Program;" ∈ AW := aw_of3 (i := 205) rfl rfl
theorem aw_750 : Cond.fieldLinkNest "RejudgeHall" 196 "RejudgeHall$Entry" "program" "LRejudgeHall$Program;" "RejudgeHall" ∈ AW := aw_of3 (i := 206) rfl rfl
theorem aw_751 : Cond.fieldLink "RejudgeHall$Entry" 18 "RejudgeHall$Entry" "verdict" "I" ∈ AW := aw_of3 (i := 207) rfl rfl
theorem aw_752 : Cond.fieldLinkNest "RejudgeHall" 224 "RejudgeHall$Entry" "verdict" "I" "RejudgeHall" ∈ AW := aw_of3 (i := 208) rfl rfl
theorem aw_753 : Cond.fieldLink "RejudgeHall$Entry" 22 "RejudgeHall$Entry" "failedTest" "I" ∈ AW := aw_of3 (i := 209) rfl rfl
theorem aw_754 : Cond.fieldLinkNest "RejudgeHall" 227 "RejudgeHall$Entry" "failedTest" "I" "RejudgeHall" ∈ AW := aw_of3 (i := 210) rfl rfl
theorem aw_755 : Cond.fieldLink "RejudgeHall$Entry" 25 "RejudgeHall$Entry" "score" "I" ∈ AW := aw_of3 (i := 211) rfl rfl
theorem aw_756 : Cond.fieldLinkNest "RejudgeHall" 230 "RejudgeHall$Entry" "score" "I" "RejudgeHall" ∈ AW := aw_of3 (i := 212) rfl rfl
theorem aw_757 : Cond.fieldLink "RejudgeHall$Entry" 28 "RejudgeHall$Entry" "version" "I" ∈ AW := aw_of3 (i := 213) rfl rfl
theorem aw_758 : Cond.fieldLinkNest "RejudgeHall" 216 "RejudgeHall$Entry" "version" "I" "RejudgeHall" ∈ AW := aw_of3 (i := 214) rfl rfl
theorem aw_776 : Cond.methodLink "RejudgeHallLaw" 116 yL_pass ∈ AW := aw_of3 (i := 232) rfl rfl
theorem aw_777 : Cond.static yL_pass ∈ AW := aw_of3 (i := 233) rfl rfl
theorem aw_778 : Cond.codeWith yL_pass method_12_code 4 (some .int) [(0, 9, 12, 13), (0, 9, 15, 15)] ∈ AW := aw_of3 (i := 234) rfl rfl
theorem aw_779 : Cond.methodLink "RejudgeHallLaw" 45 yX7_pass ∈ AW := aw_of3 (i := 235) rfl rfl
theorem aw_780 : Cond.instanceMethod yX7_pass ∈ AW := aw_of3 (i := 236) rfl rfl
theorem aw_781 : Cond.selects "RejudgeHall" yX7_pass yX7_pass ∈ AW := aw_of3 (i := 237) rfl rfl
theorem aw_782 : Cond.code yX7_pass prog_1_method_12_code 2 (some .int) ∈ AW := aw_of3 (i := 238) rfl rfl
theorem aw_784 : Cond.methodLink "RejudgeHallLaw" 123 yL_rejudge ∈ AW := aw_of4 (i := 0) rfl rfl
theorem aw_785 : Cond.static yL_rejudge ∈ AW := aw_of4 (i := 1) rfl rfl
theorem aw_786 : Cond.codeWith yL_rejudge method_13_code 4 (some .int) [(0, 9, 12, 30)] ∈ AW := aw_of4 (i := 2) rfl rfl
theorem aw_787 : Cond.methodLink "RejudgeHallLaw" 48 yX7_rejudge ∈ AW := aw_of4 (i := 3) rfl rfl
theorem aw_788 : Cond.instanceMethod yX7_rejudge ∈ AW := aw_of4 (i := 4) rfl rfl
theorem aw_789 : Cond.selects "RejudgeHall" yX7_rejudge yX7_rejudge ∈ AW := aw_of4 (i := 5) rfl rfl
theorem aw_790 : Cond.code yX7_rejudge prog_1_method_14_code 6 (some .int) ∈ AW := aw_of4 (i := 6) rfl rfl
theorem aw_791 : Cond.methodLinkNest "RejudgeHall" 217 yX0_letWait "RejudgeHall" ∈ AW := aw_of4 (i := 7) rfl rfl
theorem aw_793 : Cond.instanceMethod yX0_letWait ∈ AW := aw_of4 (i := 9) rfl rfl
theorem aw_794 : Cond.code yX0_letWait prog_2_method_3_code 1 (none : Option Jvm.ClassFile.FieldType) ∈ AW := aw_of4 (i := 10) rfl rfl
theorem aw_795 : Cond.methodLink "RejudgeHallLaw" 126 yL_entry ∈ AW := aw_of4 (i := 11) rfl rfl
theorem aw_796 : Cond.static yL_entry ∈ AW := aw_of4 (i := 12) rfl rfl
theorem aw_797 : Cond.codeWith yL_entry method_14_code 5 (some .int) [(0, 10, 13, 30), (0, 10, 17, 13)] ∈ AW := aw_of4 (i := 13) rfl rfl
theorem aw_798 : Cond.methodLink "RejudgeHallLaw" 51 yX7_entry ∈ AW := aw_of4 (i := 14) rfl rfl
theorem aw_799 : Cond.instanceMethod yX7_entry ∈ AW := aw_of4 (i := 15) rfl rfl
theorem aw_800 : Cond.selects "RejudgeHall" yX7_entry yX7_entry ∈ AW := aw_of4 (i := 16) rfl rfl
theorem aw_801 : Cond.code yX7_entry prog_1_method_15_code 4 (some .int) ∈ AW := aw_of4 (i := 17) rfl rfl
theorem aw_802 : Cond.methodLink "RejudgeHall" 220 yX7_entryAt ∈ AW := aw_of4 (i := 18) rfl rfl
theorem aw_804 : Cond.instanceMethod yX7_entryAt ∈ AW := aw_of4 (i := 20) rfl rfl
theorem aw_805 : Cond.code yX7_entryAt prog_1_method_25_code 2 (some (.object "RejudgeHall$Entry")) ∈ AW := aw_of4 (i := 21) rfl rfl
theorem aw_806 : Cond.methodLink "RejudgeHallLaw" 129 yL_likeness ∈ AW := aw_of4 (i := 22) rfl rfl
theorem aw_807 : Cond.static yL_likeness ∈ AW := aw_of4 (i := 23) rfl rfl
theorem aw_808 : Cond.codeWith yL_likeness method_15_code 5 (some .int) [(0, 10, 13, 30)] ∈ AW := aw_of4 (i := 24) rfl rfl
theorem aw_809 : Cond.methodLink "RejudgeHallLaw" 54 yX7_likeness ∈ AW := aw_of4 (i := 25) rfl rfl
theorem aw_810 : Cond.instanceMethod yX7_likeness ∈ AW := aw_of4 (i := 26) rfl rfl
theorem aw_811 : Cond.selects "RejudgeHall" yX7_likeness yX7_likeness ∈ AW := aw_of4 (i := 27) rfl rfl
theorem aw_812 : Cond.code yX7_likeness prog_1_method_16_code 6 (some .int) ∈ AW := aw_of4 (i := 28) rfl rfl
theorem aw_813 : Cond.methodLink "RejudgeHall" 234 yJ9_max_7cf53 ∈ AW := aw_of4 (i := 29) rfl rfl
theorem aw_814 : Cond.methodLink "RejudgeHall" 240 yX7_longestCommon ∈ AW := aw_of4 (i := 30) rfl rfl
theorem aw_816 : Cond.instanceMethod yX7_longestCommon ∈ AW := aw_of4 (i := 32) rfl rfl
theorem aw_817 : Cond.code yX7_longestCommon prog_1_method_33_code 7 (some .int) ∈ AW := aw_of4 (i := 33) rfl rfl
theorem aw_818 : Cond.methodLink "RejudgeHall" 322 yJ7_fill_53178 ∈ AW := aw_of4 (i := 34) rfl rfl
theorem aw_819 : Cond.methodLinkNest "RejudgeHall" 328 yX3_isAlikeAt "RejudgeHall" ∈ AW := aw_of4 (i := 35) rfl rfl
theorem aw_821 : Cond.instanceMethod yX3_isAlikeAt ∈ AW := aw_of4 (i := 37) rfl rfl
theorem aw_822 : Cond.code yX3_isAlikeAt prog_5_method_5_code 5 (some .boolean) ∈ AW := aw_of4 (i := 38) rfl rfl
theorem aw_823 : Cond.methodLink "RejudgeHall$Program" 28 yX3_has ∈ AW := aw_of4 (i := 39) rfl rfl
theorem aw_824 : Cond.methodLink "RejudgeHallLaw" 132 yL_freeze ∈ AW := aw_of4 (i := 40) rfl rfl
theorem aw_825 : Cond.static yL_freeze ∈ AW := aw_of4 (i := 41) rfl rfl
theorem aw_826 : Cond.codeWith yL_freeze method_16_code 3 (some .int) [(0, 5, 8, 13)] ∈ AW := aw_of4 (i := 42) rfl rfl
theorem aw_827 : Cond.methodLink "RejudgeHallLaw" 57 yX7_freeze ∈ AW := aw_of4 (i := 43) rfl rfl
theorem aw_828 : Cond.instanceMethod yX7_freeze ∈ AW := aw_of4 (i := 44) rfl rfl
theorem aw_829 : Cond.selects "RejudgeHall" yX7_freeze yX7_freeze ∈ AW := aw_of4 (i := 45) rfl rfl
theorem aw_830 : Cond.code yX7_freeze prog_1_method_17_code 3 (none : Option Jvm.ClassFile.FieldType) ∈ AW := aw_of4 (i := 46) rfl rfl
theorem aw_831 : Cond.methodLink "RejudgeHallLaw" 140 yL_board ∈ AW := aw_of4 (i := 47) rfl rfl
theorem aw_832 : Cond.static yL_board ∈ AW := aw_of4 (i := 48) rfl rfl
theorem aw_833 : Cond.codeWith yL_board method_17_code 6 (some .int) [(0, 12, 15, 30), (0, 12, 19, 13)] ∈ AW := aw_of4 (i := 49) rfl rfl
theorem aw_834 : Cond.methodLink "RejudgeHallLaw" 61 yX7_board ∈ AW := aw_of4 (i := 50) rfl rfl
theorem aw_835 : Cond.instanceMethod yX7_board ∈ AW := aw_of4 (i := 51) rfl rfl
theorem aw_836 : Cond.selects "RejudgeHall" yX7_board yX7_board ∈ AW := aw_of4 (i := 52) rfl rfl
theorem aw_837 : Cond.code yX7_board prog_1_method_19_code 4 (some .int) ∈ AW := aw_of4 (i := 53) rfl rfl
theorem aw_838 : Cond.methodLinkNest "RejudgeHall" 258 yX5_placeOf "RejudgeHall" ∈ AW := aw_of4 (i := 54) rfl rfl
theorem aw_840 : Cond.instanceMethod yX5_placeOf ∈ AW := aw_of4 (i := 56) rfl rfl
theorem aw_841 : Cond.code yX5_placeOf prog_7_method_5_code 4 (some .int) ∈ AW := aw_of4 (i := 57) rfl rfl
theorem aw_842 : Cond.methodLink "RejudgeHall$Standings" 61 yX5_isAhead ∈ AW := aw_of4 (i := 58) rfl rfl
theorem aw_843 : Cond.methodLink "RejudgeHallLaw" 144 yL_placeAnew ∈ AW := aw_of4 (i := 59) rfl rfl
theorem aw_844 : Cond.static yL_placeAnew ∈ AW := aw_of4 (i := 60) rfl rfl
theorem aw_845 : Cond.codeWith yL_placeAnew method_18_code 4 (some .int) [(0, 9, 12, 30)] ∈ AW := aw_of4 (i := 61) rfl rfl
theorem aw_846 : Cond.methodLink "RejudgeHallLaw" 65 yX7_placeAnew ∈ AW := aw_of4 (i := 62) rfl rfl
theorem aw_847 : Cond.instanceMethod yX7_placeAnew ∈ AW := aw_of4 (i := 63) rfl rfl
theorem aw_848 : Cond.selects "RejudgeHall" yX7_placeAnew yX7_placeAnew ∈ AW := aw_of4 (i := 64) rfl rfl
theorem aw_849 : Cond.code yX7_placeAnew prog_1_method_20_code 4 (some .int) ∈ AW := aw_of4 (i := 65) rfl rfl
theorem aw_850 : Cond.methodLink "RejudgeHall" 273 yX7_passesAll ∈ AW := aw_of4 (i := 66) rfl rfl
theorem aw_852 : Cond.instanceMethod yX7_passesAll ∈ AW := aw_of4 (i := 68) rfl rfl
theorem aw_853 : Cond.code yX7_passesAll prog_1_method_30_code 4 (some .boolean) ∈ AW := aw_of4 (i := 69) rfl rfl
theorem aw_854 : Cond.methodLink "RejudgeHallLaw" 147 yL_hack ∈ AW := aw_of4 (i := 70) rfl rfl
theorem aw_855 : Cond.static yL_hack ∈ AW := aw_of4 (i := 71) rfl rfl
theorem aw_856 : Cond.codeWith yL_hack method_19_code 5 (some .int) [(0, 17, 20, 30), (0, 17, 24, 15)] ∈ AW := aw_of4 (i := 72) rfl rfl
theorem aw_857 : Cond.methodLink "RejudgeHallLaw" 68 yX7_hack ∈ AW := aw_of4 (i := 73) rfl rfl
theorem aw_858 : Cond.instanceMethod yX7_hack ∈ AW := aw_of4 (i := 74) rfl rfl
theorem aw_859 : Cond.selects "RejudgeHall" yX7_hack yX7_hack ∈ AW := aw_of4 (i := 75) rfl rfl
theorem aw_860 : Cond.code yX7_hack prog_1_method_21_code 6 (some .boolean) ∈ AW := aw_of4 (i := 76) rfl rfl
theorem aw_861 : Cond.methodLink "RejudgeHall" 281 yX7_hasSolved ∈ AW := aw_of4 (i := 77) rfl rfl
theorem aw_863 : Cond.instanceMethod yX7_hasSolved ∈ AW := aw_of4 (i := 79) rfl rfl
theorem aw_864 : Cond.code yX7_hasSolved prog_1_method_32_code 5 (some .boolean) ∈ AW := aw_of4 (i := 80) rfl rfl
theorem aw_868 : Cond.classLink "RejudgeHallLaw" 73 "RejudgeHallModel" ∈ AW := aw_of4 (i := 84) rfl rfl
theorem aw_869 : Cond.instantiable "RejudgeHallModel" 39 ∈ AW := aw_of4 (i := 85) rfl rfl
theorem aw_870 : Cond.methodLink "RejudgeHallLaw" 75 yX8_init ∈ AW := aw_of4 (i := 86) rfl rfl
theorem aw_871 : Cond.instanceMethod yX8_init ∈ AW := aw_of4 (i := 87) rfl rfl
theorem aw_872 : Cond.code yX8_init prog_10_method_1_code 2 (none : Option Jvm.ClassFile.FieldType) ∈ AW := aw_of4 (i := 88) rfl rfl
theorem aw_873 : Cond.methodLink "RejudgeHallModel" 1 ⟨"java/lang/Object", "<init>", "()V"⟩ ∈ AW := aw_of4 (i := 89) rfl rfl
theorem aw_874 : Cond.fieldLink "RejudgeHallModel" 186 "RejudgeHallModel" "minute" "I" ∈ AW := aw_of4 (i := 90) rfl rfl
theorem aw_875 : Cond.fieldLink "RejudgeHallModel" 7 "RejudgeHallModel" "size" "[I" ∈ AW := aw_of4 (i := 91) rfl rfl
theorem aw_876 : Cond.fieldLink "RejudgeHallModel" 13 "RejudgeHallModel" "sort" "[I" ∈ AW := aw_of4 (i := 92) rfl rfl
theorem aw_877 : Cond.fieldLink "RejudgeHallModel" 16 "RejudgeHallModel" "number" "[I" ∈ AW := aw_of4 (i := 93) rfl rfl
theorem aw_878 : Cond.fieldLink "RejudgeHallModel" 19 "RejudgeHallModel" "given" "[I" ∈ AW := aw_of4 (i := 94) rfl rfl
theorem aw_879 : Cond.fieldLink "RejudgeHallModel" 22 "RejudgeHallModel" "inputs" "[I" ∈ AW := aw_of4 (i := 95) rfl rfl
theorem aw_880 : Cond.fieldLink "RejudgeHallModel" 105 "RejudgeHallModel" "problems" "I" ∈ AW := aw_of4 (i := 96) rfl rfl
theorem aw_881 : Cond.fieldLink "RejudgeHallModel" 25 "RejudgeHallModel" "limit" "[I" ∈ AW := aw_of4 (i := 97) rfl rfl
theorem aw_882 : Cond.fieldLink "RejudgeHallModel" 28 "RejudgeHallModel" "checker" "[I" ∈ AW := aw_of4 (i := 98) rfl rfl
theorem aw_883 : Cond.fieldLink "RejudgeHallModel" 31 "RejudgeHallModel" "version" "[I" ∈ AW := aw_of4 (i := 99) rfl rfl
theorem aw_884 : Cond.fieldLink "RejudgeHallModel" 34 "RejudgeHallModel" "tests" "[I" ∈ AW := aw_of4 (i := 100) rfl rfl
theorem aw_885 : Cond.fieldLink "RejudgeHallModel" 37 "RejudgeHallModel" "groupOf" "[I" ∈ AW := aw_of4 (i := 101) rfl rfl
theorem aw_886 : Cond.fieldLink "RejudgeHallModel" 40 "RejudgeHallModel" "points" "[I" ∈ AW := aw_of4 (i := 102) rfl rfl
theorem aw_887 : Cond.fieldLink "RejudgeHallModel" 112 "RejudgeHallModel" "entries" "I" ∈ AW := aw_of4 (i := 103) rfl rfl
theorem aw_888 : Cond.fieldLink "RejudgeHallModel" 43 "RejudgeHallModel" "team" "[I" ∈ AW := aw_of4 (i := 104) rfl rfl
theorem aw_889 : Cond.fieldLink "RejudgeHallModel" 46 "RejudgeHallModel" "problemOf" "[I" ∈ AW := aw_of4 (i := 105) rfl rfl
theorem aw_890 : Cond.fieldLink "RejudgeHallModel" 49 "RejudgeHallModel" "when" "[I" ∈ AW := aw_of4 (i := 106) rfl rfl
theorem aw_891 : Cond.fieldLink "RejudgeHallModel" 52 "RejudgeHallModel" "verdict" "[I" ∈ AW := aw_of4 (i := 107) rfl rfl
theorem aw_892 : Cond.fieldLink "RejudgeHallModel" 55 "RejudgeHallModel" "failed" "[I" ∈ AW := aw_of4 (i := 108) rfl rfl
theorem aw_893 : Cond.fieldLink "RejudgeHallModel" 58 "RejudgeHallModel" "score" "[I" ∈ AW := aw_of4 (i := 109) rfl rfl
theorem aw_894 : Cond.fieldLink "RejudgeHallModel" 61 "RejudgeHallModel" "judgedBy" "[I" ∈ AW := aw_of4 (i := 110) rfl rfl
theorem aw_895 : Cond.fieldLink "RejudgeHallModel" 64 "RejudgeHallModel" "judgings" "[I" ∈ AW := aw_of4 (i := 111) rfl rfl
theorem aw_896 : Cond.fieldLink "RejudgeHallModel" 67 "RejudgeHallModel" "hacks" "[I" ∈ AW := aw_of4 (i := 112) rfl rfl
theorem aw_897 : Cond.fieldLink "RejudgeHallModel" 70 "RejudgeHallModel" "frozenFrom" "I" ∈ AW := aw_of4 (i := 113) rfl rfl
theorem aw_898 : Cond.fieldLink "RejudgeHallModel" 74 "RejudgeHallModel" "revealed" "[Z" ∈ AW := aw_of4 (i := 114) rfl rfl
theorem aw_899 : Cond.fieldLink "RejudgeHallModel" 117 "RejudgeHallModel" "fails" "I" ∈ AW := aw_of4 (i := 115) rfl rfl
theorem aw_900 : Cond.fieldLink "RejudgeHallModel" 123 "RejudgeHallModel" "steps" "I" ∈ AW := aw_of4 (i := 116) rfl rfl
theorem aw_901 : Cond.fieldLink "RejudgeHallModel" 126 "RejudgeHallModel" "printed" "I" ∈ AW := aw_of4 (i := 117) rfl rfl
theorem aw_902 : Cond.fieldLink "RejudgeHallModel" 78 "RejudgeHallModel" "output" "[I" ∈ AW := aw_of4 (i := 118) rfl rfl
theorem aw_903 : Cond.fieldLink "RejudgeHallModel" 81 "RejudgeHallModel" "stack" "[I" ∈ AW := aw_of4 (i := 119) rfl rfl
theorem aw_904 : Cond.fieldLink "RejudgeHallModel" 120 "RejudgeHallModel" "pushed" "I" ∈ AW := aw_of4 (i := 120) rfl rfl
theorem aw_905 : Cond.fieldLink "RejudgeHallModel" 152 "RejudgeHallModel" "answered" "I" ∈ AW := aw_of4 (i := 121) rfl rfl
theorem aw_906 : Cond.fieldLink "RejudgeHallModel" 84 "RejudgeHallModel" "answer" "[I" ∈ AW := aw_of4 (i := 122) rfl rfl
theorem aw_907 : Cond.fieldLink "RejudgeHallModel" 87 "RejudgeHallModel" "told" "[I" ∈ AW := aw_of4 (i := 123) rfl rfl
theorem aw_908 : Cond.fieldLink "RejudgeHallModel" 90 "RejudgeHallModel" "solved" "[I" ∈ AW := aw_of4 (i := 124) rfl rfl
theorem aw_909 : Cond.fieldLink "RejudgeHallModel" 93 "RejudgeHallModel" "sum" "[I" ∈ AW := aw_of4 (i := 125) rfl rfl
theorem aw_910 : Cond.fieldLink "RejudgeHallModel" 96 "RejudgeHallModel" "latest" "[I" ∈ AW := aw_of4 (i := 126) rfl rfl
theorem aw_911 : Cond.fieldLink "RejudgeHallModel" 99 "RejudgeHallModel" "row" "[I" ∈ AW := aw_of4 (i := 127) rfl rfl
theorem aw_912 : Cond.fieldLink "RejudgeHallModel" 102 "RejudgeHallModel" "thrown" "I" ∈ AW := aw_of4 (i := 128) rfl rfl
theorem aw_992 : Cond.methodLink "RejudgeHallLaw" 82 yX8_thrown ∈ AW := aw_of4 (i := 208) rfl rfl
theorem aw_993 : Cond.instanceMethod yX8_thrown ∈ AW := aw_of4 (i := 209) rfl rfl
theorem aw_994 : Cond.selects "RejudgeHallModel" yX8_thrown yX8_thrown ∈ AW := aw_of4 (i := 210) rfl rfl
theorem aw_995 : Cond.code yX8_thrown prog_10_method_2_code 1 (some .int) ∈ AW := aw_of4 (i := 211) rfl rfl
theorem aw_996 : Cond.methodLink "RejudgeHallLaw" 81 yX8_code ∈ AW := aw_of4 (i := 212) rfl rfl
theorem aw_997 : Cond.instanceMethod yX8_code ∈ AW := aw_of4 (i := 213) rfl rfl
theorem aw_998 : Cond.selects "RejudgeHallModel" yX8_code yX8_code ∈ AW := aw_of4 (i := 214) rfl rfl
theorem aw_999 : Cond.code yX8_code prog_10_method_14_code 3 (some .int) ∈ AW := aw_of4 (i := 215) rfl rfl
theorem aw_1000 : Cond.methodLink "RejudgeHallModel" 108 yX8_isIn ∈ AW := aw_of4 (i := 216) rfl rfl
theorem aw_1001 : Cond.static yX8_isIn ∈ AW := aw_of4 (i := 217) rfl rfl
theorem aw_1002 : Cond.code yX8_isIn prog_10_method_3_code 3 (some .boolean) ∈ AW := aw_of4 (i := 218) rfl rfl
theorem aw_1003 : Cond.methodLink "RejudgeHallLaw" 89 yX8_input ∈ AW := aw_of4 (i := 219) rfl rfl
theorem aw_1004 : Cond.instanceMethod yX8_input ∈ AW := aw_of4 (i := 220) rfl rfl
theorem aw_1005 : Cond.selects "RejudgeHallModel" yX8_input yX8_input ∈ AW := aw_of4 (i := 221) rfl rfl
theorem aw_1006 : Cond.code yX8_input prog_10_method_15_code 2 (some .int) ∈ AW := aw_of4 (i := 222) rfl rfl
theorem aw_1007 : Cond.methodLink "RejudgeHallLaw" 93 yX8_clear ∈ AW := aw_of4 (i := 223) rfl rfl
theorem aw_1008 : Cond.instanceMethod yX8_clear ∈ AW := aw_of4 (i := 224) rfl rfl
theorem aw_1009 : Cond.selects "RejudgeHallModel" yX8_clear yX8_clear ∈ AW := aw_of4 (i := 225) rfl rfl
theorem aw_1010 : Cond.code yX8_clear prog_10_method_16_code 2 (some .int) ∈ AW := aw_of4 (i := 226) rfl rfl
theorem aw_1011 : Cond.methodLink "RejudgeHallModel" 145 yX8_empties ∈ AW := aw_of4 (i := 227) rfl rfl
theorem aw_1013 : Cond.instanceMethod yX8_empties ∈ AW := aw_of4 (i := 229) rfl rfl
theorem aw_1014 : Cond.code yX8_empties prog_10_method_12_code 2 (none : Option Jvm.ClassFile.FieldType) ∈ AW := aw_of4 (i := 230) rfl rfl
theorem aw_1015 : Cond.methodLink "RejudgeHallLaw" 96 yX8_run ∈ AW := aw_of4 (i := 231) rfl rfl
theorem aw_1016 : Cond.instanceMethod yX8_run ∈ AW := aw_of4 (i := 232) rfl rfl
theorem aw_1017 : Cond.selects "RejudgeHallModel" yX8_run yX8_run ∈ AW := aw_of4 (i := 233) rfl rfl
theorem aw_1018 : Cond.code yX8_run prog_10_method_17_code 3 (some .int) ∈ AW := aw_of4 (i := 234) rfl rfl
theorem aw_1019 : Cond.methodLink "RejudgeHallModel" 148 yX8_runs ∈ AW := aw_of4 (i := 235) rfl rfl
theorem aw_1021 : Cond.instanceMethod yX8_runs ∈ AW := aw_of4 (i := 237) rfl rfl
theorem aw_1022 : Cond.code yX8_runs prog_10_method_10_code 10 (none : Option Jvm.ClassFile.FieldType) ∈ AW := aw_of4 (i := 238) rfl rfl
theorem aw_1023 : Cond.methodLink "RejudgeHallModel" 129 yX8_needs ∈ AW := aw_of4 (i := 239) rfl rfl
theorem aw_1024 : Cond.static yX8_needs ∈ AW := aw_of5 (i := 0) rfl rfl
theorem aw_1025 : Cond.code yX8_needs prog_10_method_8_code 1 (some .int) ∈ AW := aw_of5 (i := 1) rfl rfl
theorem aw_1026 : Cond.methodLink "RejudgeHallModel" 133 yX8_pushes ∈ AW := aw_of5 (i := 2) rfl rfl
theorem aw_1028 : Cond.instanceMethod yX8_pushes ∈ AW := aw_of5 (i := 4) rfl rfl
theorem aw_1029 : Cond.code yX8_pushes prog_10_method_9_code 2 (none : Option Jvm.ClassFile.FieldType) ∈ AW := aw_of5 (i := 5) rfl rfl
theorem aw_1030 : Cond.constant "RejudgeHallModel" 115 (-999999 : Int32) ∈ AW := aw_of5 (i := 6) rfl rfl
theorem aw_1031 : Cond.constant "RejudgeHallModel" 116 (999999 : Int32) ∈ AW := aw_of5 (i := 7) rfl rfl
theorem aw_1032 : Cond.methodLink "RejudgeHallModel" 137 yX8_makes ∈ AW := aw_of5 (i := 8) rfl rfl
theorem aw_1034 : Cond.instanceMethod yX8_makes ∈ AW := aw_of5 (i := 10) rfl rfl
theorem aw_1035 : Cond.code yX8_makes prog_10_method_11_code 3 (none : Option Jvm.ClassFile.FieldType) ∈ AW := aw_of5 (i := 11) rfl rfl
theorem aw_1036 : Cond.constantLong "RejudgeHallModel" 141 (999999 : Int64) ∈ AW := aw_of5 (i := 12) rfl rfl
theorem aw_1037 : Cond.constantLong "RejudgeHallModel" 143 (-999999 : Int64) ∈ AW := aw_of5 (i := 13) rfl rfl
theorem aw_1038 : Cond.methodLink "RejudgeHallLaw" 99 yX8_problem ∈ AW := aw_of5 (i := 14) rfl rfl
theorem aw_1039 : Cond.instanceMethod yX8_problem ∈ AW := aw_of5 (i := 15) rfl rfl
theorem aw_1040 : Cond.selects "RejudgeHallModel" yX8_problem yX8_problem ∈ AW := aw_of5 (i := 16) rfl rfl
theorem aw_1041 : Cond.code yX8_problem prog_10_method_20_code 3 (some .int) ∈ AW := aw_of5 (i := 17) rfl rfl
theorem aw_1042 : Cond.methodLink "RejudgeHallModel" 155 yX8_isChecker ∈ AW := aw_of5 (i := 18) rfl rfl
theorem aw_1043 : Cond.static yX8_isChecker ∈ AW := aw_of5 (i := 19) rfl rfl
theorem aw_1044 : Cond.code yX8_isChecker prog_10_method_19_code 1 (some .boolean) ∈ AW := aw_of5 (i := 20) rfl rfl
theorem aw_1045 : Cond.methodLink "RejudgeHallModel" 159 yX8_copies ∈ AW := aw_of5 (i := 21) rfl rfl
theorem aw_1047 : Cond.instanceMethod yX8_copies ∈ AW := aw_of5 (i := 23) rfl rfl
theorem aw_1048 : Cond.code yX8_copies prog_10_method_13_code 4 (none : Option Jvm.ClassFile.FieldType) ∈ AW := aw_of5 (i := 24) rfl rfl
theorem aw_1049 : Cond.methodLink "RejudgeHallLaw" 102 yX8_test ∈ AW := aw_of5 (i := 25) rfl rfl
theorem aw_1050 : Cond.instanceMethod yX8_test ∈ AW := aw_of5 (i := 26) rfl rfl
theorem aw_1051 : Cond.selects "RejudgeHallModel" yX8_test yX8_test ∈ AW := aw_of5 (i := 27) rfl rfl
theorem aw_1052 : Cond.code yX8_test prog_10_method_22_code 3 (some .int) ∈ AW := aw_of5 (i := 28) rfl rfl
theorem aw_1053 : Cond.methodLink "RejudgeHallModel" 163 yX8_isProblem ∈ AW := aw_of5 (i := 29) rfl rfl
theorem aw_1055 : Cond.instanceMethod yX8_isProblem ∈ AW := aw_of5 (i := 31) rfl rfl
theorem aw_1056 : Cond.code yX8_isProblem prog_10_method_4_code 2 (some .boolean) ∈ AW := aw_of5 (i := 32) rfl rfl
theorem aw_1057 : Cond.methodLink "RejudgeHallModel" 166 yX8_isGroup ∈ AW := aw_of5 (i := 33) rfl rfl
theorem aw_1058 : Cond.static yX8_isGroup ∈ AW := aw_of5 (i := 34) rfl rfl
theorem aw_1059 : Cond.code yX8_isGroup prog_10_method_7_code 1 (some .boolean) ∈ AW := aw_of5 (i := 35) rfl rfl
theorem aw_1060 : Cond.methodLink "RejudgeHallModel" 169 yX8_answers ∈ AW := aw_of5 (i := 36) rfl rfl
theorem aw_1062 : Cond.instanceMethod yX8_answers ∈ AW := aw_of5 (i := 38) rfl rfl
theorem aw_1063 : Cond.code yX8_answers prog_10_method_18_code 4 (some .boolean) ∈ AW := aw_of5 (i := 39) rfl rfl
theorem aw_1064 : Cond.methodLink "RejudgeHallModel" 173 yX8_becomes ∈ AW := aw_of5 (i := 40) rfl rfl
theorem aw_1066 : Cond.instanceMethod yX8_becomes ∈ AW := aw_of5 (i := 42) rfl rfl
theorem aw_1067 : Cond.code yX8_becomes prog_10_method_21_code 5 (none : Option Jvm.ClassFile.FieldType) ∈ AW := aw_of5 (i := 43) rfl rfl
theorem aw_1068 : Cond.methodLink "RejudgeHallLaw" 106 yX8_points ∈ AW := aw_of5 (i := 44) rfl rfl
theorem aw_1069 : Cond.instanceMethod yX8_points ∈ AW := aw_of5 (i := 45) rfl rfl
theorem aw_1070 : Cond.selects "RejudgeHallModel" yX8_points yX8_points ∈ AW := aw_of5 (i := 46) rfl rfl
theorem aw_1071 : Cond.code yX8_points prog_10_method_23_code 5 (some .int) ∈ AW := aw_of5 (i := 47) rfl rfl
theorem aw_1072 : Cond.methodLink "RejudgeHallLaw" 109 yX8_mend ∈ AW := aw_of5 (i := 48) rfl rfl
theorem aw_1073 : Cond.instanceMethod yX8_mend ∈ AW := aw_of5 (i := 49) rfl rfl
theorem aw_1074 : Cond.selects "RejudgeHallModel" yX8_mend yX8_mend ∈ AW := aw_of5 (i := 50) rfl rfl
theorem aw_1075 : Cond.code yX8_mend prog_10_method_24_code 5 (some .int) ∈ AW := aw_of5 (i := 51) rfl rfl
theorem aw_1076 : Cond.methodLink "RejudgeHallLaw" 112 yX8_answer ∈ AW := aw_of5 (i := 52) rfl rfl
theorem aw_1077 : Cond.instanceMethod yX8_answer ∈ AW := aw_of5 (i := 53) rfl rfl
theorem aw_1078 : Cond.selects "RejudgeHallModel" yX8_answer yX8_answer ∈ AW := aw_of5 (i := 54) rfl rfl
theorem aw_1079 : Cond.code yX8_answer prog_10_method_25_code 5 (some .int) ∈ AW := aw_of5 (i := 55) rfl rfl
theorem aw_1080 : Cond.methodLink "RejudgeHallLaw" 115 yX8_enter ∈ AW := aw_of5 (i := 56) rfl rfl
theorem aw_1081 : Cond.instanceMethod yX8_enter ∈ AW := aw_of5 (i := 57) rfl rfl
theorem aw_1082 : Cond.selects "RejudgeHallModel" yX8_enter yX8_enter ∈ AW := aw_of5 (i := 58) rfl rfl
theorem aw_1083 : Cond.code yX8_enter prog_10_method_29_code 3 (some .int) ∈ AW := aw_of5 (i := 59) rfl rfl
theorem aw_1084 : Cond.methodLink "RejudgeHallModel" 183 yX8_isTeam ∈ AW := aw_of5 (i := 60) rfl rfl
theorem aw_1085 : Cond.static yX8_isTeam ∈ AW := aw_of5 (i := 61) rfl rfl
theorem aw_1086 : Cond.code yX8_isTeam prog_10_method_6_code 1 (some .boolean) ∈ AW := aw_of5 (i := 62) rfl rfl
theorem aw_1087 : Cond.methodLink "RejudgeHallLaw" 118 yX8_pass ∈ AW := aw_of5 (i := 63) rfl rfl
theorem aw_1088 : Cond.instanceMethod yX8_pass ∈ AW := aw_of5 (i := 64) rfl rfl
theorem aw_1089 : Cond.selects "RejudgeHallModel" yX8_pass yX8_pass ∈ AW := aw_of5 (i := 65) rfl rfl
theorem aw_1090 : Cond.code yX8_pass prog_10_method_30_code 2 (some .int) ∈ AW := aw_of5 (i := 66) rfl rfl
theorem aw_1091 : Cond.methodLink "RejudgeHallLaw" 122 yX8_judge ∈ AW := aw_of5 (i := 67) rfl rfl
theorem aw_1092 : Cond.instanceMethod yX8_judge ∈ AW := aw_of5 (i := 68) rfl rfl
theorem aw_1093 : Cond.selects "RejudgeHallModel" yX8_judge yX8_judge ∈ AW := aw_of5 (i := 69) rfl rfl
theorem aw_1094 : Cond.code yX8_judge prog_10_method_31_code 4 (some .int) ∈ AW := aw_of5 (i := 70) rfl rfl
theorem aw_1095 : Cond.methodLink "RejudgeHallModel" 189 yX8_judges ∈ AW := aw_of5 (i := 71) rfl rfl
theorem aw_1097 : Cond.instanceMethod yX8_judges ∈ AW := aw_of5 (i := 73) rfl rfl
theorem aw_1098 : Cond.code yX8_judges prog_10_method_28_code 7 (none : Option Jvm.ClassFile.FieldType) ∈ AW := aw_of5 (i := 74) rfl rfl
theorem aw_1099 : Cond.methodLink "RejudgeHallModel" 176 yX8_does ∈ AW := aw_of5 (i := 75) rfl rfl
theorem aw_1101 : Cond.instanceMethod yX8_does ∈ AW := aw_of5 (i := 77) rfl rfl
theorem aw_1102 : Cond.code yX8_does prog_10_method_26_code 8 (some .int) ∈ AW := aw_of5 (i := 78) rfl rfl
theorem aw_1103 : Cond.methodLink "RejudgeHallModel" 180 yX8_firstFailed ∈ AW := aw_of5 (i := 79) rfl rfl
theorem aw_1105 : Cond.instanceMethod yX8_firstFailed ∈ AW := aw_of5 (i := 81) rfl rfl
theorem aw_1106 : Cond.code yX8_firstFailed prog_10_method_27_code 4 (some .int) ∈ AW := aw_of5 (i := 82) rfl rfl
theorem aw_1107 : Cond.methodLink "RejudgeHallLaw" 125 yX8_rejudge ∈ AW := aw_of5 (i := 83) rfl rfl
theorem aw_1108 : Cond.instanceMethod yX8_rejudge ∈ AW := aw_of5 (i := 84) rfl rfl
theorem aw_1109 : Cond.selects "RejudgeHallModel" yX8_rejudge yX8_rejudge ∈ AW := aw_of5 (i := 85) rfl rfl
theorem aw_1110 : Cond.code yX8_rejudge prog_10_method_32_code 4 (some .int) ∈ AW := aw_of5 (i := 86) rfl rfl
theorem aw_1111 : Cond.methodLink "RejudgeHallLaw" 128 yX8_entry ∈ AW := aw_of5 (i := 87) rfl rfl
theorem aw_1112 : Cond.instanceMethod yX8_entry ∈ AW := aw_of5 (i := 88) rfl rfl
theorem aw_1113 : Cond.selects "RejudgeHallModel" yX8_entry yX8_entry ∈ AW := aw_of5 (i := 89) rfl rfl
theorem aw_1114 : Cond.code yX8_entry prog_10_method_33_code 4 (some .int) ∈ AW := aw_of5 (i := 90) rfl rfl
theorem aw_1115 : Cond.methodLink "RejudgeHallModel" 192 yX8_isEntry ∈ AW := aw_of5 (i := 91) rfl rfl
theorem aw_1117 : Cond.instanceMethod yX8_isEntry ∈ AW := aw_of5 (i := 93) rfl rfl
theorem aw_1118 : Cond.code yX8_isEntry prog_10_method_5_code 2 (some .boolean) ∈ AW := aw_of5 (i := 94) rfl rfl
theorem aw_1119 : Cond.methodLink "RejudgeHallLaw" 131 yX8_likeness ∈ AW := aw_of5 (i := 95) rfl rfl
theorem aw_1120 : Cond.instanceMethod yX8_likeness ∈ AW := aw_of5 (i := 96) rfl rfl
theorem aw_1121 : Cond.selects "RejudgeHallModel" yX8_likeness yX8_likeness ∈ AW := aw_of5 (i := 97) rfl rfl
theorem aw_1122 : Cond.code yX8_likeness prog_10_method_35_code 11 (some .int) ∈ AW := aw_of5 (i := 98) rfl rfl
theorem aw_1123 : Cond.methodLink "RejudgeHallModel" 195 yX8_areAlike ∈ AW := aw_of5 (i := 99) rfl rfl
theorem aw_1125 : Cond.instanceMethod yX8_areAlike ∈ AW := aw_of5 (i := 101) rfl rfl
theorem aw_1126 : Cond.code yX8_areAlike prog_10_method_34_code 4 (some .boolean) ∈ AW := aw_of5 (i := 102) rfl rfl
theorem aw_1127 : Cond.methodLink "RejudgeHallLaw" 135 yX8_freeze ∈ AW := aw_of5 (i := 103) rfl rfl
theorem aw_1128 : Cond.instanceMethod yX8_freeze ∈ AW := aw_of5 (i := 104) rfl rfl
theorem aw_1129 : Cond.selects "RejudgeHallModel" yX8_freeze yX8_freeze ∈ AW := aw_of5 (i := 105) rfl rfl
theorem aw_1130 : Cond.code yX8_freeze prog_10_method_42_code 3 (none : Option Jvm.ClassFile.FieldType) ∈ AW := aw_of5 (i := 106) rfl rfl
theorem aw_1131 : Cond.methodLink "RejudgeHallLaw" 139 yX8_reveal ∈ AW := aw_of5 (i := 107) rfl rfl
theorem aw_1132 : Cond.instanceMethod yX8_reveal ∈ AW := aw_of5 (i := 108) rfl rfl
theorem aw_1133 : Cond.selects "RejudgeHallModel" yX8_reveal yX8_reveal ∈ AW := aw_of5 (i := 109) rfl rfl
theorem aw_1134 : Cond.code yX8_reveal prog_10_method_44_code 4 (some .int) ∈ AW := aw_of5 (i := 110) rfl rfl
theorem aw_1135 : Cond.methodLink "RejudgeHallModel" 211 yX8_tells ∈ AW := aw_of5 (i := 111) rfl rfl
theorem aw_1137 : Cond.instanceMethod yX8_tells ∈ AW := aw_of5 (i := 113) rfl rfl
theorem aw_1138 : Cond.code yX8_tells prog_10_method_39_code 4 (none : Option Jvm.ClassFile.FieldType) ∈ AW := aw_of5 (i := 114) rfl rfl
theorem aw_1139 : Cond.methodLink "RejudgeHallModel" 202 yX8_isLate ∈ AW := aw_of5 (i := 115) rfl rfl
theorem aw_1141 : Cond.instanceMethod yX8_isLate ∈ AW := aw_of5 (i := 117) rfl rfl
theorem aw_1142 : Cond.code yX8_isLate prog_10_method_36_code 2 (some .boolean) ∈ AW := aw_of5 (i := 118) rfl rfl
theorem aw_1143 : Cond.methodLink "RejudgeHallModel" 205 yX8_boards ∈ AW := aw_of5 (i := 119) rfl rfl
theorem aw_1145 : Cond.instanceMethod yX8_boards ∈ AW := aw_of5 (i := 121) rfl rfl
theorem aw_1146 : Cond.code yX8_boards prog_10_method_38_code 5 (none : Option Jvm.ClassFile.FieldType) ∈ AW := aw_of5 (i := 122) rfl rfl
theorem aw_1147 : Cond.methodLink "RejudgeHallModel" 198 yX8_counts ∈ AW := aw_of5 (i := 123) rfl rfl
theorem aw_1149 : Cond.instanceMethod yX8_counts ∈ AW := aw_of5 (i := 125) rfl rfl
theorem aw_1150 : Cond.code yX8_counts prog_10_method_37_code 4 (some .int) ∈ AW := aw_of5 (i := 126) rfl rfl
theorem aw_1151 : Cond.methodLink "RejudgeHallModel" 215 yX8_toReveal ∈ AW := aw_of5 (i := 127) rfl rfl
theorem aw_1153 : Cond.instanceMethod yX8_toReveal ∈ AW := aw_of5 (i := 129) rfl rfl
theorem aw_1154 : Cond.code yX8_toReveal prog_10_method_43_code 5 (some .int) ∈ AW := aw_of5 (i := 130) rfl rfl
theorem aw_1155 : Cond.methodLink "RejudgeHallModel" 208 yX8_isAhead ∈ AW := aw_of5 (i := 131) rfl rfl
theorem aw_1157 : Cond.instanceMethod yX8_isAhead ∈ AW := aw_of5 (i := 133) rfl rfl
theorem aw_1158 : Cond.code yX8_isAhead prog_10_method_40_code 3 (some .boolean) ∈ AW := aw_of5 (i := 134) rfl rfl
theorem aw_1159 : Cond.methodLink "RejudgeHallLaw" 143 yX8_board ∈ AW := aw_of5 (i := 135) rfl rfl
theorem aw_1160 : Cond.instanceMethod yX8_board ∈ AW := aw_of5 (i := 136) rfl rfl
theorem aw_1161 : Cond.selects "RejudgeHallModel" yX8_board yX8_board ∈ AW := aw_of5 (i := 137) rfl rfl
theorem aw_1162 : Cond.code yX8_board prog_10_method_45_code 4 (some .int) ∈ AW := aw_of5 (i := 138) rfl rfl
theorem aw_1163 : Cond.methodLink "RejudgeHallModel" 218 yX8_placeOf ∈ AW := aw_of5 (i := 139) rfl rfl
theorem aw_1165 : Cond.instanceMethod yX8_placeOf ∈ AW := aw_of5 (i := 141) rfl rfl
theorem aw_1166 : Cond.code yX8_placeOf prog_10_method_41_code 4 (some .int) ∈ AW := aw_of5 (i := 142) rfl rfl
theorem aw_1167 : Cond.methodLink "RejudgeHallLaw" 146 yX8_placeAnew ∈ AW := aw_of5 (i := 143) rfl rfl
theorem aw_1168 : Cond.instanceMethod yX8_placeAnew ∈ AW := aw_of5 (i := 144) rfl rfl
theorem aw_1169 : Cond.selects "RejudgeHallModel" yX8_placeAnew yX8_placeAnew ∈ AW := aw_of5 (i := 145) rfl rfl
theorem aw_1170 : Cond.code yX8_placeAnew prog_10_method_46_code 3 (some .int) ∈ AW := aw_of5 (i := 146) rfl rfl
theorem aw_1171 : Cond.methodLink "RejudgeHallLaw" 149 yX8_hack ∈ AW := aw_of5 (i := 147) rfl rfl
theorem aw_1172 : Cond.instanceMethod yX8_hack ∈ AW := aw_of5 (i := 148) rfl rfl
theorem aw_1173 : Cond.selects "RejudgeHallModel" yX8_hack yX8_hack ∈ AW := aw_of5 (i := 149) rfl rfl
theorem aw_1174 : Cond.code yX8_hack prog_10_method_47_code 6 (some .boolean) ∈ AW := aw_of5 (i := 150) rfl rfl
theorem aw_1175 : Cond.arrayClass .long ∈ AW := aw_of5 (i := 151) rfl rfl
theorem aw_1177 : Cond.castable "RejudgeHall" "java/lang/Object" ∈ AW := aw_of5 (i := 153) rfl rfl
theorem aw_1178 : Cond.castable "RejudgeHall$Program" "java/lang/Object" ∈ AW := aw_of5 (i := 154) rfl rfl
theorem aw_1179 : Cond.castable "RejudgeHall$Row" "java/lang/Object" ∈ AW := aw_of5 (i := 155) rfl rfl
theorem aw_1180 : Cond.castable "RejudgeHall$Machine" "java/lang/Object" ∈ AW := aw_of5 (i := 156) rfl rfl
theorem aw_1181 : Cond.castable "java/util/ArrayList" "java/lang/Object" ∈ AW := aw_of5 (i := 157) rfl rfl
theorem aw_1182 : Cond.castable "RejudgeHall$Standings" "java/lang/Object" ∈ AW := aw_of5 (i := 158) rfl rfl
theorem aw_1183 : Cond.castable "RejudgeHallModel" "java/lang/Object" ∈ AW := aw_of5 (i := 159) rfl rfl
theorem aw_1184 : Cond.castable "java/lang/IllegalArgumentException" "java/lang/Object" ∈ AW := aw_of5 (i := 160) rfl rfl
theorem aw_1185 : Cond.castable "java/lang/IllegalStateException" "java/lang/Object" ∈ AW := aw_of5 (i := 161) rfl rfl
theorem aw_1186 : Cond.castable "RejudgeHall$Problem" "java/lang/Object" ∈ AW := aw_of5 (i := 162) rfl rfl
theorem aw_1187 : Cond.castable "java/lang/IndexOutOfBoundsException" "java/lang/Object" ∈ AW := aw_of5 (i := 163) rfl rfl
theorem aw_1188 : Cond.castable "RejudgeHall$Trial" "java/lang/Object" ∈ AW := aw_of5 (i := 164) rfl rfl
theorem aw_1189 : Cond.castable "RejudgeHall$Entry" "java/lang/Object" ∈ AW := aw_of5 (i := 165) rfl rfl
theorem aw_1190 : Cond.castable "java/lang/Throwable" "java/lang/Object" ∈ AW := aw_of5 (i := 166) rfl rfl
theorem aw_1191 : Cond.castable "java/lang/String" "java/lang/Object" ∈ AW := aw_of5 (i := 167) rfl rfl
theorem aw_1193 : Cond.selects "[Ljava/lang/Object;" ⟨"java/lang/Object", "getClass", "()Ljava/lang/Class;"⟩ ⟨"java/lang/Object", "getClass", "()Ljava/lang/Class;"⟩ ∈ AW := aw_of5 (i := 169) rfl rfl
theorem aw_1194 : Cond.declares ⟨"java/lang/Object", "getClass", "()Ljava/lang/Class;"⟩ ∈ AW := aw_of5 (i := 170) rfl rfl
theorem aw_1195 : Cond.castable "[I" "java/lang/Object" ∈ AW := aw_of5 (i := 171) rfl rfl
theorem aw_1196 : Cond.castable "[Z" "java/lang/Object" ∈ AW := aw_of5 (i := 172) rfl rfl
theorem aw_1197 : Cond.castable "[B" "java/lang/Object" ∈ AW := aw_of5 (i := 173) rfl rfl
theorem aw_1198 : Cond.castable "[Ljava/lang/Object;" "java/lang/Object" ∈ AW := aw_of5 (i := 174) rfl rfl
theorem aw_1199 : Cond.castable "[J" "java/lang/Object" ∈ AW := aw_of5 (i := 175) rfl rfl
theorem aw_list {ws : List Cond} (is : List Nat) (h : ws = is.filterMap (fun i => lw_tbl[i]?)) (hm : ws.all mvW = true) : ∀ w ∈ ws, w ∈ AW := by
  intro w hw
  have h1 := List.all_eq_true.mp hm w hw
  rw [h] at hw
  obtain ⟨i, -, hi⟩ := List.mem_filterMap.mp hw
  exact aw_of hi h1
theorem ck_0 : Cls 0 RJx4a65c TJx4a65c tyJx4a65c := ⟨rfl, aw_list [182, 178, 180] (by decide +kernel) rfl, tyJx4a65c_ok, nmJx4a65c⟩
theorem ck_1 : Cls 1 RX0 TX0 tyX0 := ⟨rfl, aw_list [759, 761, 763, 765, 767, 769, 771, 773] (by decide +kernel) rfl, tyX0_ok, nmX0⟩
theorem ck_2 : Cls 2 RX1 TX1 tyX1 := ⟨rfl, aw_list [148, 150, 152, 154, 156] (by decide +kernel) rfl, tyX1_ok, nmX1⟩
theorem ck_3 : Cls 3 RX2 TX2 tyX2 := ⟨rfl, aw_list [551, 553, 555, 557, 559, 561, 563] (by decide +kernel) rfl, tyX2_ok, nmX2⟩
theorem ck_4 : Cls 4 RX3 TX3 tyX3 := ⟨rfl, aw_list [110, 112, 114] (by decide +kernel) rfl, tyX3_ok, nmX3⟩
theorem ck_5 : Cls 5 RX4 TX4 tyX4 := ⟨rfl, aw_list [128, 130] (by decide +kernel) rfl, tyX4_ok, nmX4⟩
theorem ck_6 : Cls 6 RX5 TX5 tyX5 := ⟨rfl, aw_list [199, 201, 203, 205, 207] (by decide +kernel) rfl, tyX5_ok, nmX5⟩
theorem ck_7 : Cls 7 RX6 TX6 tyX6 := ⟨rfl, aw_list [682, 684, 686] (by decide +kernel) rfl, tyX6_ok, nmX6⟩
theorem ck_8 : Cls 8 RX7 TX7 tyX7 := ⟨rfl, aw_list [223, 225, 227, 229, 231, 233, 235, 237, 239, 241, 243, 245] (by decide +kernel) rfl, tyX7_ok, nmX7⟩
theorem ck_9 : Cls 9 RX8 TX8 tyX8 := ⟨rfl, aw_list [913, 915, 917, 919, 921, 923, 925, 927, 929, 931, 933, 935, 937, 939, 941, 943, 945, 947, 949, 951, 953, 955, 957, 959, 961, 963, 965, 967, 969, 971, 973, 975, 977, 979, 981, 983, 985, 987, 989] (by decide +kernel) rfl, tyX8_ok, nmX8⟩
end
section
section FL
variable {p : Program} {l : Launch} {e : Env} {R : Room} {s : State} {m : MethodId} {args : Array Value} {below : List Frame} {meth : Method} {c : Code} {H : Heap} {locs : List Loc} {cells slots : Nat} {Q : State → Prop}
variable {D : va_G} {cy : Nat → ClassId} {B : Nat} {L : List Nat} {K : KT} {P : PT} {J I : IT} {own : String} {cc : ByteArray} {nL pc : Nat} {ls : Array Slot} {rest st0 As : List Value} {H0 : Heap}
variable {a n co ci idx mc ms maxL : Nat} {i : Int} {y : MethodName} {bytes : ByteArray} {ret : Option FieldType} {rm : Room} {Qc : Array Value → State → Outcome → State → Prop} {C : String} {T : u_T} {ty : Nat → FieldType}
theorem fl_aald (C0 : FC D cy B p s m meth c own cc nL) (hF : FS D cy B L K P J H0 I H locs) (hka : K a = 102 + 4 * n) (hri : rg i) (hi : 0 ≤ i ∧ i < n) (hz : K (P a i.toNat) ≠ 0) (hdg : decode cc pc = .ok (.aaload, 1))
    (kk : W p l e R s m args below meth c H locs cells slots Q (F0 m (pc + 1) ls (.ref (P a i.toNat) :: rest))) : W p l e R s m args below meth c H locs cells slots Q (F0 m pc ls (iv i :: .ref a :: rest)) := by
  obtain ⟨hx, hb, -, hown, -, hFK, -⟩ := C0
  obtain ⟨k0, hk0⟩ := hF.get (a := a) (by omega)
  rw [fcell_arr (kd := 2) (n := n) (by omega) (by decide), farr_ref] at hk0
  refine va_aldq hx hb hFK.1 hF.1 k0 2 hk0 rfl (of_in hri hi) hdg ?_
  rw [of_clamp hri, rfo_ne (hF.ne0 hz)]
  exact kk
theorem fl_cast (hC : Cls ci C T ty) (C0 : FC D cy B p s m meth c own cc nL) (hF : FS D cy B L K P J s.heap I H locs) (h : K a = co) (ho : cok co ci = true) (hw : Cond.classLink own idx C ∈ AW) (hdg : decode cc pc = .ok (.checkcast idx, 3))
    (kk : W p l e R s m args below meth c H locs cells slots Q (F0 m (pc + 3) ls (.ref a :: rest))) : W p l e R s m args below meth c H locs cells slots Q (F0 m pc ls (.ref a :: rest)) := by
  obtain ⟨h1, h2, h3⟩ := cok_of ho
  subst h
  obtain ⟨hx, hb, -, hown, -, hFK, -⟩ := C0
  exact va_castS hx hb hown (hFK.use _ hw) (hFK.1.1 ci _ hC.1).2 (hF.recv hC hFK h1 h2 h3) hdg kk
theorem fl_acopy {a0 n0 n1 : Nat} {sp dp k : Int} (C0 : FC D cy B p s m meth c own cc nL) (hF : FS D cy B L K P J H0 I H locs) (hsz : ls.size = nL) (h0 : K a0 = 100 + 4 * n0) (h1 : K a = 100 + 4 * n1) (r0 : rg sp) (r1 : rg dp) (r2 : rg k) (hb2 : 0 ≤ sp ∧ 0 ≤ dp ∧ 0 ≤ k ∧ sp + k ≤ n0 ∧ dp + k ≤ n1)
    (w1 : Cond.methodLink own idx arraycopyName ∈ AW) (w2 : Cond.native arraycopyName ∈ AW) (w3 : Cond.static arraycopyName ∈ AW) (w4 : Cond.initialized "java/lang/System" ∈ AW) (hframes : 1 ≤ R.frames) (hlocals : (rest.map fun v => v.category).sum + (nativeFrameWords "java/lang/System" "arraycopy" 5 + 11) ≤ R.locals) (hdg : decode cc pc = .ok (.invokestatic idx, 3))
    (kk : ∀ (H1 : Heap) (locs1 : List Loc), FS D cy B L K P J H0 (cpy I a0 a sp.toNat dp.toNat k.toNat) H1 locs1 → W p l e R s m args below meth c H1 locs1 cells slots Q (F0 m (pc + 3) ls rest)) : W p l e R s m args below meth c H locs cells slots Q (F0 m pc ls (iv k :: iv dp :: .ref a :: iv sp :: .ref a0 :: rest)) := by
  obtain ⟨hx, hb, hml, hown, -, hFK, -⟩ := C0
  obtain ⟨k0, hk0⟩ := hF.get (a := a0) (by omega)
  obtain ⟨k1, hk1⟩ := hF.get (a := a) (by omega)
  have hk2 := hk1
  have hcell : ∀ (I' : IT) (b n : Nat), K b = 100 + 4 * n → fcell cy K P J I' b = .inl (cy 0, (n, .inl (fun j => Int32.ofInt (I' b j)))) := fun I' b n h => by rw [fcell_arr (kd := 0) h (by decide), farr_int]
  rw [hcell I a0 n0 h0] at hk0
  rw [hcell I a n1 h1] at hk1
  have nn : ∀ {z : Int}, rg z → 0 ≤ z → ¬ Int32.ofInt z < 0 := fun {z} hz h => by
    have h9 : Int32.ofInt z < Int32.ofInt 0 ↔ z < 0 := of_lt hz ⟨by decide, by decide⟩
    intro q
    have := h9.mp q
    omega
  refine va_copyi hx hb (hml.trans hsz.symm) hown (hFK.use _ w1) (hFK.use _ w2) (hFK.use _ w3) (hFK.use _ w4) hFK.1 hF.1 hF.2.1 hF.2.2.1 k0 k1 0 0 hk0 hk1 rfl rfl rfl (nn r0 hb2.1) (nn r1 hb2.2.1) (nn r2 hb2.2.2.1) (by rw [of_clamp r0, of_clamp r2]; omega) (by rw [of_clamp r1, of_clamp r2]; omega) (fun _ _ => rfl) hframes hlocals hdg ?_
  intro H1 locs1 g1 g2 g3
  have hcp : ∀ b, b ≠ a → fcell cy K P J (cpy I a0 a sp.toNat dp.toNat k.toNat) b = fcell cy K P J I b := by
    intro b hb3
    have q1 : ∀ j, cpy I a0 a sp.toNat dp.toNat k.toNat b j = I b j := fun j => by simp [cpy, hb3]
    have q2 : fobj cy P (cpy I a0 a sp.toNat dp.toNat k.toNat) (kci (K b)) b = fobj cy P I (kci (K b)) b := by
      unfold fobj
      apply List.map_congr_left
      intro j _
      simp only [fval, q1]
    have q3 : farr cy P J (cpy I a0 a sp.toNat dp.toNat k.toNat) (K b % 4) b = farr cy P J I (K b % 4) b := by
      unfold farr
      simp only [q1]
    simp only [fcell, q2, q3]
  have he := fl_set (g := fcell cy K P J (cpy I a0 a sp.toNat dp.toNat k.toNat)) hF.2.1 (hF.2.2.2.1 a (by omega)) hk2 (hcell _ a n1 h1) hcp
  have hf : va_cpy (fun j => Int32.ofInt (I a0 j)) (fun j => Int32.ofInt (I a j)) (Int32.ofInt sp).toNatClampNeg (Int32.ofInt dp).toNatClampNeg (Int32.ofInt k).toNatClampNeg = fun j => Int32.ofInt (cpy I a0 a sp.toNat dp.toNat k.toNat a j) := by
    funext j
    rw [of_clamp r0, of_clamp r1, of_clamp r2]
    unfold va_cpy cpy
    by_cases hj : dp.toNat ≤ j ∧ j < dp.toNat + k.toNat
    · rw [if_pos hj, if_pos ⟨rfl, hj⟩]
    · rw [if_neg hj, if_neg (fun q => hj q.2)]
  rw [hf, he] at g1 g2
  exact kk H1 locs1 ⟨g1, g2, g3, hF.2.2.2.1, hF.2.2.2.2.1, hF.2.2.2.2.2.1, rgI_cpy hF.2.2.2.2.2.2 _ _ _ _ _⟩
theorem fl_runSG (C0 : FC D cy B p s m meth c own cc nL) (hF : FS D cy B L K P J s.heap I H locs) (hsz : ls.size = nL)
    (hM : Met l y [.code y bytes maxL ret] rm (va_Pc As (FW D cy B L K P J I)) Qc mc ms (fun q => B ≤ q)) (w1 : Cond.methodLink own idx y ∈ AW) (w2 : Cond.static y ∈ AW) (w4 : Cond.initialized y.cls ∈ AW) (w5 : Cond.code y bytes maxL ret ∈ AW)
    (hn : As.length = n) (hd : plainM y n) (hrc : rm.cells = mc) (hrs : rm.slots = ms) (hR : rooms R rm maxL) (hst : st0 = As.reverse ++ rest) (hW : (rest.map fun v => v.category).sum ≤ 8) (hdg : decode cc pc = .ok (.invokestatic idx, 3)) (hf : cells + mc ≤ R.cells ∧ slots + ms ≤ R.slots) :
    va_Run p l e R s m args below meth c H locs cells slots mc ms (F0 m pc ls st0) rest (Qc As.toArray) (fun q => B ≤ q) := by
  obtain ⟨hx, hb, hml, hown, -, hFK, hFZ⟩ := C0
  exact va_runS (Ts := AW) ⟨hx, hb, hml, hown, hFK.use⟩ hM ⟨callB_of n hFK.use (gi_1 w5 rfl) rfl hrc hrs (hFK.use _ w4) (hFK.use _ w1) hd hR, hFK.use _ w2⟩ ⟨FW.blind, hF.pre hFK hFZ _⟩ rfl hn hsz hst (lv_room hW) hdg hf
theorem fl_runSN {host : String} (C0 : FC D cy B p s m meth c own cc nL) (hF : FS D cy B L K P J s.heap I H locs) (hsz : ls.size = nL)
    (hM : Met l y [.code y bytes maxL ret] rm (va_Pc As (FW D cy B L K P J I)) Qc mc ms (fun q => B ≤ q)) (w1 : Cond.methodLinkNest own idx y host ∈ AW) (w2 : Cond.static y ∈ AW) (w4 : Cond.initialized y.cls ∈ AW) (w5 : Cond.code y bytes maxL ret ∈ AW)
    (hn : As.length = n) (hd : plainM y n) (hrc : rm.cells = mc) (hrs : rm.slots = ms) (hR : rooms R rm maxL) (hst : st0 = As.reverse ++ rest) (hW : (rest.map fun v => v.category).sum ≤ 8) (hdg : decode cc pc = .ok (.invokestatic idx, 3)) (hf : cells + mc ≤ R.cells ∧ slots + ms ≤ R.slots) :
    va_Run p l e R s m args below meth c H locs cells slots mc ms (F0 m pc ls st0) rest (Qc As.toArray) (fun q => B ≤ q) := by
  obtain ⟨hx, hb, hml, hown, -, hFK, hFZ⟩ := C0
  exact va_runSN (Ts := AW) ⟨hx, hb, hml, hown, hFK.use⟩ hM ⟨va_cnB n hFK.use (gi_1 w5 rfl) rfl hrc hrs (hFK.2.1 _ w1) (hFK.use _ w4) hd hR, hFK.use _ w2, trivial⟩ ⟨FW.blind, hF.pre hFK hFZ _⟩ rfl hn hsz hst (lv_room hW) hdg hf
def imax (x y : Int) : Int := if x < y then y else x
def imin (x y : Int) : Int := if y < x then y else x
def iabs (x : Int) : Int := if 0 ≤ x then x else wr (0 - x)
theorem rg_imax {x y : Int} (hx : rg x) (hy : rg y) : rg (imax x y) := by unfold imax; split <;> assumption
theorem rg_imin {x y : Int} (hx : rg x) (hy : rg y) : rg (imin x y) := by unfold imin; split <;> assumption
theorem rg_iabs {x : Int} (hx : rg x) : rg (iabs x) := by
  unfold iabs
  split
  · exact hx
  · exact rg_wr _
theorem fl_max {x z : Int} (C0 : FC D cy B p s m meth c own cc nL) (hsz : ls.size = nL) (rx : rg x) (rz : rg z) (w1 : Cond.methodLink own idx yJ9_max_7cf53 ∈ AW) (hfr : 1 ≤ R.frames) (hlo : (rest.map fun v => v.category).sum + 13 ≤ R.locals) (hc : cells ≤ R.cells) (hs : slots ≤ R.slots) (hdg : decode cc pc = .ok (.invokestatic idx, 3))
    (kk : W p l e R s m args below meth c H locs cells slots Q (F0 m (pc + 3) ls (iv (imax x z) :: rest))) : W p l e R s m args below meth c H locs cells slots Q (F0 m pc ls (iv z :: iv x :: rest)) := by
  obtain ⟨hx, hb, hml, hown, -, hFK, -⟩ := C0
  refine va_mmax hx hb (hml.trans hsz.symm) hown (hFK.use _ w1) (hFK.use _ aw_388) (hFK.use _ aw_83) (hFK.use _ aw_389) hfr hlo hc hs hdg ?_
  have h : (if Int32.ofInt x < Int32.ofInt z then Int32.ofInt z else Int32.ofInt x) = Int32.ofInt (imax x z) := by
    unfold imax
    by_cases q : x < z
    · rw [if_pos ((of_lt rx rz).mpr q), if_pos q]
    · rw [if_neg (fun h => q ((of_lt rx rz).mp h)), if_neg q]
  rw [h]
  exact kk
theorem fl_min {x z : Int} (C0 : FC D cy B p s m meth c own cc nL) (hsz : ls.size = nL) (rx : rg x) (rz : rg z) (w1 : Cond.methodLink own idx yJ9_min_7cf53 ∈ AW) (hfr : 1 ≤ R.frames) (hlo : (rest.map fun v => v.category).sum + 13 ≤ R.locals) (hc : cells ≤ R.cells) (hs : slots ≤ R.slots) (hdg : decode cc pc = .ok (.invokestatic idx, 3))
    (kk : W p l e R s m args below meth c H locs cells slots Q (F0 m (pc + 3) ls (iv (imin x z) :: rest))) : W p l e R s m args below meth c H locs cells slots Q (F0 m pc ls (iv z :: iv x :: rest)) := by
  obtain ⟨hx, hb, hml, hown, -, hFK, -⟩ := C0
  refine va_mmin hx hb (hml.trans hsz.symm) hown (hFK.use _ w1) (hFK.use _ aw_395) (hFK.use _ aw_83) (hFK.use _ aw_396) hfr hlo hc hs hdg ?_
  have h : (if Int32.ofInt z < Int32.ofInt x then Int32.ofInt z else Int32.ofInt x) = Int32.ofInt (imin x z) := by
    unfold imin
    by_cases q : z < x
    · rw [if_pos ((of_lt rz rx).mpr q), if_pos q]
    · rw [if_neg (fun h => q ((of_lt rz rx).mp h)), if_neg q]
  rw [h]
  exact kk
theorem fl_abs {x : Int} (C0 : FC D cy B p s m meth c own cc nL) (hsz : ls.size = nL) (rx : rg x) (w1 : Cond.methodLink own idx yJ9_abs_0f7a4 ∈ AW) (hfr : 1 ≤ R.frames) (hlo : (rest.map fun v => v.category).sum + 13 ≤ R.locals) (hc : cells ≤ R.cells) (hs : slots ≤ R.slots) (hdg : decode cc pc = .ok (.invokestatic idx, 3))
    (kk : W p l e R s m args below meth c H locs cells slots Q (F0 m (pc + 3) ls (iv (iabs x) :: rest))) : W p l e R s m args below meth c H locs cells slots Q (F0 m pc ls (iv x :: rest)) := by
  obtain ⟨hx, hb, hml, hown, -, hFK, -⟩ := C0
  refine va_mabs hx hb (hml.trans hsz.symm) hown (hFK.use _ w1) (hFK.use _ aw_349) (hFK.use _ aw_83) (hFK.use _ aw_350) hfr hlo hc hs hdg ?_
  have r0 : rg 0 := ⟨by decide, by decide⟩
  have e0 : (0 : Int32) = Int32.ofInt 0 := rfl
  have h : (if 0 ≤ Int32.ofInt x then Int32.ofInt x else 0 - Int32.ofInt x) = Int32.ofInt (iabs x) := by
    unfold iabs
    rw [e0]
    by_cases q : 0 ≤ x
    · rw [if_pos ((of_le r0 rx).mpr q), if_pos q]
    · rw [if_neg (fun h => q ((of_le r0 rx).mp h)), if_neg q, of_sub]
  rw [h]
  exact kk
end FL
/-- an element of a list, of the code t -/
def lgetf (K : KT) (P : PT) (I : IT) (a : Nat) (i : Int) (t : Nat) : Option Nat :=
  ck (0 ≤ i ∧ i < I a 2 ∧ 100 ≤ K (P a 1) ∧ K (P a 1) % 4 = 2 ∧ i < (((K (P a 1) - 100) / 4 : Nat) : Int) ∧ K (P (P a 1) i.toNat) = t ∧ t ≠ 0) (some (P (P a 1) i.toNat))
section LST
variable (l : Launch) (D : va_G) (cy : Nat → ClassId) (B : Nat) (L : List Nat) (K : KT) (P : PT) (J : IT) (I : IT)
theorem c_chk3 (i n : Int) (ri : rg i) (rn : rg n) (h : 0 ≤ i ∧ i < n) : Met l yJ3_checkIndex_8e157 [.code yJ3_checkIndex_8e157 cJ3_checkIndex_8e157 3 (some .int)] { frames := 0, cells := 0, slots := 0, locals := 0 } (va_Pc [iv i, iv n, .null] (FW D cy B L K P J I)) (QI D cy B L K P J (i, I)) 0 0 (fun q => B ≤ q) := by
  refine fl_body (own := "jdk/internal/util/Preconditions") [iv i, iv n, .null] (by decide) rfl (Nat.le_of_ble_eq_true rfl) ?_
  intro p e s m args below meth c ls C0 hr hF hl
  have hl : lv_has ls 3 [(0, iv i), (1, iv n), (2, .null)] := hl
  refine lv_iload_n C0.1 C0.2.1 dJ3_checkIndex_8e157_0 rfl (lv_at hl 0 rfl) ?_
  refine fl_if_lt (tgt := 9) C0 ri dJ3_checkIndex_8e157_1 (by decide) (fun c1 => absurd c1 (by omega)) (fun c1 => ?_)
  refine lv_iload_n C0.1 C0.2.1 dJ3_checkIndex_8e157_4 rfl (lv_at hl 0 rfl) ?_
  refine lv_iload_n C0.1 C0.2.1 dJ3_checkIndex_8e157_5 rfl (lv_at hl 1 rfl) ?_
  refine fl_icmp_lt (tgt := 16) C0 ri rn dJ3_checkIndex_8e157_6 (by decide) (fun c1 => ?_) (fun c1 => absurd h.2 c1)
  refine lv_iload_n C0.1 C0.2.1 dJ3_checkIndex_8e157_16 rfl (lv_at hl 0 rfl) ?_
  exact fl_iret C0 hF hr ri rfl dJ3_checkIndex_8e157_17
theorem pm_chk3 : plainM yJ3_checkIndex_8e157 3 := by decide +kernel
theorem c_chk15 (i n : Int) (ri : rg i) (rn : rg n) (h : 0 ≤ i ∧ i < n) : Met l yJ15_checkIndex_7cf53 [.code yJ15_checkIndex_7cf53 cJ15_checkIndex_7cf53 2 (some .int)] { frames := 1, cells := 0, slots := 0, locals := 22 } (va_Pc [iv i, iv n] (FW D cy B L K P J I)) (QI D cy B L K P J (i, I)) 0 0 (fun q => B ≤ q) := by
  refine fl_body (own := "java/util/Objects") [iv i, iv n] (by decide) rfl (Nat.le_of_ble_eq_true rfl) ?_
  intro p e s m args below meth c ls C0 hr hF hl
  have hl : lv_has ls 2 [(0, iv i), (1, iv n)] := hl
  refine lv_iload_n C0.1 C0.2.1 dJ15_checkIndex_7cf53_0 rfl (lv_at hl 0 rfl) ?_
  refine lv_iload_n C0.1 C0.2.1 dJ15_checkIndex_7cf53_1 rfl (lv_at hl 1 rfl) ?_
  refine lv_null C0.1 C0.2.1 dJ15_checkIndex_7cf53_2 ?_
  refine fl_ri hF (fl_runSG (As := [iv i, iv n, .null]) (rest := []) C0 hF hl.1 (c_chk3 l D cy B L K P J I i n ri rn h) aw_267 aw_268 aw_86 aw_269 rfl pm_chk3 rfl rfl ⟨Nat.le_of_ble_eq_true rfl, Nat.le_of_ble_eq_true rfl⟩ rfl (Nat.le_of_ble_eq_true rfl) dJ15_checkIndex_7cf53_3 ⟨Nat.le_of_ble_eq_true rfl, Nat.le_of_ble_eq_true rfl⟩) (fun H locs hF rr => ?_)
  exact fl_iret C0 hF hr ri rfl dJ15_checkIndex_7cf53_6
theorem pm_chk15 : plainM yJ15_checkIndex_7cf53 2 := by decide +kernel
theorem c_ed (a : Nat) (i : Int) (co : Nat) (ka : K a = co) (ho : gok co 0 1 true = true) (ri : rg i) (h1 : 100 ≤ K (P a 1)) (h2 : K (P a 1) % 4 = 2) (h3 : 0 ≤ i ∧ i < (((K (P a 1) - 100) / 4 : Nat) : Int)) (h4 : K (P (P a 1) i.toNat) ≠ 0) : Met l yJx4a65c_elementData_915e3 [.code yJx4a65c_elementData_915e3 cJx4a65c_elementData_915e3 2 (some (.object "java/lang/Object"))] { frames := 0, cells := 0, slots := 0, locals := 0 } (va_Pc [.ref a, iv i] (FW D cy B L K P J I)) (QR D cy B L K P J (P (P a 1) i.toNat, I)) 0 0 (fun q => B ≤ q) := by
  refine fl_body (own := "java/util/ArrayList") [.ref a, iv i] (by decide) rfl (Nat.le_of_ble_eq_true rfl) ?_
  intro p e s m args below meth c ls C0 hr hF hl
  have hl : lv_has ls 2 [(0, .ref a), (1, iv i)] := hl
  refine lv_aload_n C0.1 C0.2.1 dJx4a65c_elementData_915e3_0 rfl (lv_at hl 0 rfl) ?_
  refine fl_getr (k := 1) (t := K (P a 1)) ck_0 C0 hF ka ho rfl (by simp only [bne_iff_ne]; omega) ⟨rfl, rfl⟩ aw_173 dJx4a65c_elementData_915e3_1 ?_
  refine lv_iload_n C0.1 C0.2.1 dJx4a65c_elementData_915e3_4 rfl (lv_at hl 1 rfl) ?_
  refine fl_aald (n := (K (P a 1) - 100) / 4) C0 hF (by omega) ri h3 h4 dJx4a65c_elementData_915e3_5 ?_
  exact fl_aret C0 hF hr rfl dJx4a65c_elementData_915e3_6
theorem pm_ed : plainM yJx4a65c_elementData_915e3 1 := by decide +kernel
abbrev rm_get : Room := { frames := 2, cells := 0, slots := 0, locals := 43 }
theorem c_get (a : Nat) (i : Int) (co t : Nat) (ka : K a = co) (ho : cok co 0 = true) (ri : rg i) {r : Nat} (hf : lgetf K P I a i t = some r) : Met l yJx4a65c_get_915e3 [.code yJx4a65c_get_915e3 cJx4a65c_get_915e3 2 (some (.object "java/lang/Object"))] rm_get (va_Pc [.ref a, iv i] (FW D cy B L K P J I)) (QR D cy B L K P J (r, I)) 0 0 (fun q => B ≤ q) := by
  refine fl_body (own := "java/util/ArrayList") [.ref a, iv i] (by decide) rfl (Nat.le_of_ble_eq_true rfl) ?_
  intro p e s m args below meth c ls C0 hr hF hl
  have hl : lv_has ls 2 [(0, .ref a), (1, iv i)] := hl
  obtain ⟨⟨h1, h2, h3, h4, h5, h6, h7⟩, hf⟩ := ck_f hf
  cases hf
  have g1 : gok co 0 1 true = true := by
    obtain ⟨q1, q2, q3⟩ := cok_of ho
    simp only [gok, Bool.and_eq_true, bne_iff_ne, decide_eq_true_eq, beq_iff_eq]
    exact ⟨⟨⟨⟨q1, q2⟩, q3⟩, by decide⟩, rfl⟩
  have g2 : gok co 0 2 false = true := by
    obtain ⟨q1, q2, q3⟩ := cok_of ho
    simp only [gok, Bool.and_eq_true, bne_iff_ne, decide_eq_true_eq, beq_iff_eq]
    exact ⟨⟨⟨⟨q1, q2⟩, q3⟩, by decide⟩, rfl⟩
  refine lv_iload_n C0.1 C0.2.1 dJx4a65c_get_915e3_0 rfl (lv_at hl 1 rfl) ?_
  refine lv_aload_n C0.1 C0.2.1 dJx4a65c_get_915e3_1 rfl (lv_at hl 0 rfl) ?_
  refine fl_geti (k := 2) ck_0 C0 hF ka g2 ⟨rfl, rfl⟩ aw_174 dJx4a65c_get_915e3_2 ?_
  refine fl_ri hF (fl_runSG (As := [iv i, iv (I a 2)]) (rest := []) C0 hF hl.1 (c_chk15 l D cy B L K P J I i (I a 2) ri (hF.rI _ _) ⟨h1, h2⟩) aw_264 aw_265 aw_85 aw_266 rfl pm_chk15 rfl rfl ⟨Nat.le_of_ble_eq_true rfl, Nat.le_of_ble_eq_true rfl⟩ rfl (Nat.le_of_ble_eq_true rfl) dJx4a65c_get_915e3_5 ⟨Nat.le_of_ble_eq_true rfl, Nat.le_of_ble_eq_true rfl⟩) (fun H locs hF rr => ?_)
  refine lv_pop C0.1 C0.2.1 dJx4a65c_get_915e3_8 rfl ?_
  refine lv_aload_n C0.1 C0.2.1 dJx4a65c_get_915e3_9 rfl (lv_at hl 0 rfl) ?_
  refine lv_iload_n C0.1 C0.2.1 dJx4a65c_get_915e3_10 rfl (lv_at hl 1 rfl) ?_
  refine fl_rr hF (fl_runV (As := [iv i]) (rest := []) C0 hF hl.1 ck_0 ka ho (c_ed l D cy B L K P J I a i co ka g1 ri h3 h4 ⟨h1, h5⟩ (by rw [h6]; exact h7)) aw_270 aw_271 aw_272 aw_71 aw_273 rfl rfl pm_ed rfl rfl ⟨Nat.le_of_ble_eq_true rfl, Nat.le_of_ble_eq_true rfl⟩ rfl (Nat.le_of_ble_eq_true rfl) dJx4a65c_get_915e3_11 ⟨Nat.le_of_ble_eq_true rfl, Nat.le_of_ble_eq_true rfl⟩) (fun H locs hF => ?_)
  exact fl_aret C0 hF hr rfl dJx4a65c_get_915e3_14
theorem pm_get : plainM yJx4a65c_get_915e3 1 := by decide +kernel
theorem lget_k {K : KT} {P : PT} {I : IT} {a t r : Nat} {i : Int} (h : lgetf K P I a i t = some r) : K r = t := by
  obtain ⟨⟨-, -, -, -, -, h6, -⟩, hf⟩ := ck_f h
  cases hf
  exact h6
abbrev rm_size : Room := { frames := 0, cells := 0, slots := 0, locals := 0 }
theorem c_size (a co : Nat) (ka : K a = co) (ho : cok co 0 = true) : Met l yJx4a65c_size_8abf5 [.code yJx4a65c_size_8abf5 cJx4a65c_size_8abf5 1 (some .int)] rm_size (va_Pc [.ref a] (FW D cy B L K P J I)) (QI D cy B L K P J (I a 2, I)) 0 0 (fun q => B ≤ q) := by
  refine fl_body (own := "java/util/ArrayList") [.ref a] (by decide) rfl (Nat.le_of_ble_eq_true rfl) ?_
  intro p e s m args below meth c ls C0 hr hF hl
  have hl : lv_has ls 1 [(0, .ref a)] := hl
  have g2 : gok co 0 2 false = true := by
    obtain ⟨q1, q2, q3⟩ := cok_of ho
    simp only [gok, Bool.and_eq_true, bne_iff_ne, decide_eq_true_eq, beq_iff_eq]
    exact ⟨⟨⟨⟨q1, q2⟩, q3⟩, by decide⟩, rfl⟩
  refine lv_aload_n C0.1 C0.2.1 dJx4a65c_size_8abf5_0 rfl (lv_at hl 0 rfl) ?_
  refine fl_geti (k := 2) ck_0 C0 hF ka g2 ⟨rfl, rfl⟩ aw_174 dJx4a65c_size_8abf5_1 ?_
  exact fl_iret C0 hF hr (hF.rI _ _) rfl dJx4a65c_size_8abf5_4
theorem pm_size : plainM yJx4a65c_size_8abf5 0 := by decide +kernel
end LST
end
section
/-! methods that may throw: their result is (0, value, state) or (the exception's code, .., state) -/
def exn (k : Nat) : String := if k = 1 then "java/lang/IllegalArgumentException" else if k = 2 then "java/lang/IllegalStateException" else "java/lang/IndexOutOfBoundsException"
def bx {β γ : Type} [Inhabited γ] (x : Option (Nat × β × IT)) (f : β → IT → Option (Nat × γ × IT)) : Option (Nat × γ × IT) := match x with
  | none => none
  | some q => if q.1 = 0 then f q.2.1 q.2.2 else some (q.1, default, q.2.2)
theorem bx_f {β γ : Type} [Inhabited γ] {x : Option (Nat × β × IT)} {f : β → IT → Option (Nat × γ × IT)} {r : Nat × γ × IT} (h : bx x f = some r) : ∃ (c : Nat) (q : β) (I' : IT), x = some (c, q, I') ∧ (c = 0 → f q I' = some r) ∧ (c ≠ 0 → (c, default, I') = r) := by
  cases x with
  | none => cases h
  | some q =>
    refine ⟨q.1, q.2.1, q.2.2, rfl, fun h0 => ?_, fun h0 => ?_⟩
    · simp only [bx, h0, if_true] at h; exact h
    · simp only [bx, h0, if_false] at h; exact Option.some.inj h
theorem bx_0 {β γ : Type} [Inhabited γ] (q : β) (I : IT) (f : β → IT → Option (Nat × γ × IT)) : bx (some (0, q, I)) f = f q I := rfl
theorem bx_s {β γ : Type} [Inhabited γ] {c : Nat} (hc : c ≠ 0) (q : β) (I : IT) (f : β → IT → Option (Nat × γ × IT)) : bx (some (c, q, I)) f = some (c, default, I) := by simp [bx, hc]
abbrev FX (D : va_G) (cy : Nat → ClassId) (B : Nat) (L : List Nat) (K : KT) (P : PT) (J I : IT) (U : State) : Prop := FS D cy B L K P J U.heap I U.heap []
abbrev XI (D : va_G) (cy : Nat → ClassId) (B : Nat) (L : List Nat) (K : KT) (P : PT) (J : IT) (res : Nat × Int × IT) : Array Value → State → Outcome → State → Prop := va_Qi (fun (r : Int32) (_ : Unit) => res.1 = 0 ∧ r = Int32.ofInt res.2.1 ∧ rg res.2.1) (fun _ t => FW D cy B L K P J res.2.2 t) (fun q => B ≤ q)
abbrev XV (D : va_G) (cy : Nat → ClassId) (B : Nat) (L : List Nat) (K : KT) (P : PT) (J : IT) (res : Nat × Unit × IT) : Array Value → State → Outcome → State → Prop := va_Qv (fun (_ : Unit) => res.1 = 0) (fun _ t => FW D cy B L K P J res.2.2 t) (fun q => B ≤ q)
abbrev XR (D : va_G) (cy : Nat → ClassId) (B : Nat) (L : List Nat) (K : KT) (P : PT) (J : IT) (res : Nat × Nat × IT) : Array Value → State → Outcome → State → Prop := va_Qr (fun (_ : Unit) => res.1 = 0) (fun _ a t => a = res.2.1 ∧ FW D cy B L K P J res.2.2 t) (fun q => B ≤ q)
abbrev XX {β : Type} (D : va_G) (cy : Nat → ClassId) (B : Nat) (L : List Nat) (K : KT) (P : PT) (J : IT) (res : Nat × β × IT) : String → State → State → Prop := vx_X (fun (_ : Unit) => res.1 ≠ 0) (fun E _ t => E = exn res.1 ∧ FX D cy B L K P J res.2.2 t) (fun q => B ≤ q)
theorem oks_IAE : ∀ w ∈ vx_atS "RejudgeHall" 299 "java/lang/IllegalArgumentException" ["java/lang/RuntimeException", "java/lang/Exception"], w ∈ AW := fun w hw => by
  have h : (vx_atS "RejudgeHall" 299 "java/lang/IllegalArgumentException" ["java/lang/RuntimeException", "java/lang/Exception"]).all (fun w => decide (w ∈ lw_tbl) && mvW w) = true := by decide +kernel
  have h1 := List.all_eq_true.mp h w hw
  simp only [Bool.and_eq_true, decide_eq_true_eq] at h1
  exact List.mem_filter.mpr h1
theorem oks_ISE : ∀ w ∈ vx_atS "RejudgeHall" 79 "java/lang/IllegalStateException" ["java/lang/RuntimeException", "java/lang/Exception"], w ∈ AW := fun w hw => by
  have h : (vx_atS "RejudgeHall" 79 "java/lang/IllegalStateException" ["java/lang/RuntimeException", "java/lang/Exception"]).all (fun w => decide (w ∈ lw_tbl) && mvW w) = true := by decide +kernel
  have h1 := List.all_eq_true.mp h w hw
  simp only [Bool.and_eq_true, decide_eq_true_eq] at h1
  exact List.mem_filter.mpr h1
theorem oks_IOE : ∀ w ∈ vx_atS "RejudgeHall" 181 "java/lang/IndexOutOfBoundsException" ["java/lang/RuntimeException", "java/lang/Exception"], w ∈ AW := fun w hw => by
  have h : (vx_atS "RejudgeHall" 181 "java/lang/IndexOutOfBoundsException" ["java/lang/RuntimeException", "java/lang/Exception"]).all (fun w => decide (w ∈ lw_tbl) && mvW w) = true := by decide +kernel
  have h1 := List.all_eq_true.mp h w hw
  simp only [Bool.and_eq_true, decide_eq_true_eq] at h1
  exact List.mem_filter.mpr h1
/-- the exception classes: their links in RejudgeHall's pool -/
def Exc (E : String) (ik ic : Nat) : Prop := Cond.classLink "RejudgeHall" ik E ∈ AW ∧ Cond.initialized E ∈ AW ∧ (∀ w ∈ vx_atS "RejudgeHall" ic E ["java/lang/RuntimeException", "java/lang/Exception"], w ∈ AW) ∧ Bundle.fit E = true ∧ ∀ w ∈ Cond.classLink "RejudgeHall" ik E :: Cond.initialized E :: vx_atS "RejudgeHall" ic E ["java/lang/RuntimeException", "java/lang/Exception"], vx_ot w = true
theorem ex_1 : Exc (exn 1) 295 299 := ⟨aw_413, aw_77, oks_IAE, by decide +kernel, List.all_eq_true.mp (by decide +kernel)⟩
theorem ex_2 : Exc (exn 2) 75 79 := ⟨aw_481, aw_78, oks_ISE, by decide +kernel, List.all_eq_true.mp (by decide +kernel)⟩
theorem ex_3 : Exc (exn 3) 177 181 := ⟨aw_642, aw_84, oks_IOE, by decide +kernel, List.all_eq_true.mp (by decide +kernel)⟩
section FT
variable {p : Program} {l : Launch} {e : Env} {R : Room} {s : State} {m : MethodId} {args : Array Value} {below : List Frame} {meth : Method} {c : Code} {H : Heap} {locs : List Loc} {cells slots mc ms mc' ms' : Nat} {Q : State → Prop}
variable {D : va_G} {cy : Nat → ClassId} {B : Nat} {L : List Nat} {K : KT} {P : PT} {J I : IT} {own : String} {cc : ByteArray} {nL pc : Nat} {ls : Array Slot} {rest st0 As : List Value}
variable {Qc : Array Value → State → Outcome → State → Prop} {XC : String → State → State → Prop} {β : Type} {ik is ic k : Nat} {text : String}
theorem FS.thrown (hF : FS D cy B L K P J s.heap I H locs) {t : State} (h1 : H.size ≤ t.heap.size) (h2 : ∀ q : Nat, q < H.size → t.heap[q]? = H[q]?) : FX D cy B L K P J I t ∧ va_F (fun q => B ≤ q) s t := by
  refine ⟨⟨hF.1.kept (fun k q hk => h2 q.1 ((hF.1 k q hk).lt)), hF.2.1, va_S.rf, hF.2.2.2.1, hF.2.2.2.2.1, Nat.le_trans hF.2.2.2.2.2.1 (Nat.le_trans hF.2.2.1.1 h1), hF.2.2.2.2.2.2⟩, Nat.le_trans hF.2.2.1.1 h1, fun q g1 g2 => ?_⟩
  rw [h2 q (Nat.lt_of_lt_of_le g1 hF.2.2.1.1)]
  exact hF.2.2.1.2.1 q g1 g2
theorem fl_throw {res : Nat × β × IT} {v : β} (C0 : FC D cy B p s m meth c "RejudgeHall" cc nL) (hF : FS D cy B L K P J s.heap I H locs) (hst : l.stackTraces = false) (hx0 : ∀ x ∈ c.exceptionTable.toList, False) (hsz : ls.size = nL) (hE : Exc (exn k) ik ic) (hk : k ≠ 0) (ht : (is, text) ∈ txts) (he : (k, v, I) = res)
    (d0 : decode cc pc = .ok (.new ik, 3)) (d3 : decode cc (pc + 3) = .ok (.dup, 1)) (d4 : decode cc (pc + 4) = .ok (.ldc is, 2)) (d6 : decode cc (pc + 6) = .ok (.invokespecial ic, 3)) (d9 : decode cc (pc + 9) = .ok (.athrow, 1))
    (hfr : 5 < R.frames) (hlo : (rest.map fun v => v.category).sum + 82 ≤ R.locals) (hc : cells + 1 ≤ R.cells) (hs : slots + 6 ≤ R.slots) (hmc : cells + 1 ≤ mc) (hms : slots + 6 ≤ ms) :
    W p l e R s m args below meth c H locs cells slots (vx_MQ below Qc (XX D cy B L K P J res) args s mc ms (fun q => B ≤ q)) (F0 m pc ls rest) := by
  subst he
  obtain ⟨hx, hb, hml, hown, hlocks, hFK, hFZ⟩ := C0
  obtain ⟨w1, w2, w3, hfit, hgood⟩ := hE
  obtain ⟨sa, hsa⟩ := hFK.2.2.1 _ ht
  refine vx_throwS hx hb hst hown hfit (by decide +kernel) (hFK.use _ w1) (hFK.use _ w2) hsa (fun w hw => hFK.use _ (w3 w hw)) hgood hFZ.1.1 hFZ.1.2 hF.2.2.1 (hsz.trans hml.symm) d0 d3 d4 d6 d9 (fun x hx => absurd hx (fun h => hx0 x h)) hfr (by simpa using hlo) hc hs hlocks ?_ (fun z hz => hF.2.2.1.2.2 z hz) hmc hms
  intro t _ h1 h2
  obtain ⟨g1, g2⟩ := hF.thrown h1 h2
  exact ⟨(), hk, ⟨rfl, g1⟩, g2⟩
theorem fl_throwW {res : Nat × β × IT} {v : β} (C0 : FC D cy B p s m meth c "RejudgeHall" cc nL) (hF : FS D cy B L K P J s.heap I H locs) (hst : l.stackTraces = false) (hx0 : ∀ x ∈ c.exceptionTable.toList, False) (hsz : ls.size = nL) (hE : Exc (exn k) ik ic) (hk : k ≠ 0) (ht : (is, text) ∈ txts) (he : (k, v, I) = res)
    (d0 : decode cc pc = .ok (.new ik, 3)) (d3 : decode cc (pc + 3) = .ok (.dup, 1)) (d4 : decode cc (pc + 4) = .ok (.ldc_w is, 3)) (d7 : decode cc (pc + 7) = .ok (.invokespecial ic, 3)) (d10 : decode cc (pc + 10) = .ok (.athrow, 1))
    (hfr : 5 < R.frames) (hlo : (rest.map fun v => v.category).sum + 82 ≤ R.locals) (hc : cells + 1 ≤ R.cells) (hs : slots + 6 ≤ R.slots) (hmc : cells + 1 ≤ mc) (hms : slots + 6 ≤ ms) :
    W p l e R s m args below meth c H locs cells slots (vx_MQ below Qc (XX D cy B L K P J res) args s mc ms (fun q => B ≤ q)) (F0 m pc ls rest) := by
  subst he
  obtain ⟨hx, hb, hml, hown, hlocks, hFK, hFZ⟩ := C0
  obtain ⟨w1, w2, w3, hfit, hgood⟩ := hE
  obtain ⟨sa, hsa⟩ := hFK.2.2.1 _ ht
  refine vx_throwSW hx hb hst hown hfit (by decide +kernel) (hFK.use _ w1) (hFK.use _ w2) hsa (fun w hw => hFK.use _ (w3 w hw)) hgood hFZ.1.1 hFZ.1.2 hF.2.2.1 (hsz.trans hml.symm) d0 d3 d4 d7 d10 (fun x hx => absurd hx (fun h => hx0 x h)) hfr (by simpa using hlo) hc hs hlocks ?_ (fun z hz => hF.2.2.1.2.2 z hz) hmc hms
  intro t _ h1 h2
  obtain ⟨g1, g2⟩ := hF.thrown h1 h2
  exact ⟨(), hk, ⟨rfl, g1⟩, g2⟩
/-- not caught: on to the caller -/
theorem fl_prop {res : Nat × β × IT} {v : β} {q : Addr} {ce : Cell} (C0 : FC D cy B p s m meth c own cc nL) (hF : FS D cy B L K P J s.heap I H locs) (hx0 : ∀ x ∈ c.exceptionTable.toList, False) (hk : k ≠ 0) (h1 : H[q]? = some ce) (h2 : ce.vm = .none) (h3 : s.vm.findClass (exn k) = some ce.cls) (he : (k, v, I) = res) (hmc : cells ≤ mc) (hms : slots ≤ ms) :
    vx_W p l e R s m args below meth c H locs cells slots (vx_MQ below Qc (XX D cy B L K P J res) args s mc ms (fun q => B ≤ q)) (F0 m pc ls rest) q := by
  subst he
  refine vx_out (fun x hx => absurd hx (fun h => hx0 x h)) C0.2.2.2.2.1 h1 h2 h3 ?_ (fun z hz => hF.2.2.1.2.2 z hz) hmc hms
  intro t ht _
  obtain ⟨g1, g2⟩ := hF.thrown (t := t) (by rw [ht]; exact Nat.le_refl _) (fun q _ => by rw [ht])
  exact ⟨(), hk, ⟨rfl, g1⟩, g2⟩
theorem fl_iretX {r : Int} {res : Nat × Int × IT} (C0 : FC D cy B p s m meth c own cc nL) (hF : FS D cy B L K P J s.heap I H locs) (hr : meth.sig.returnType = some .int) (rr : rg r) (he : (0, r, I) = res) (hdg : decode cc pc = .ok (.ireturn, 1)) (hmc : cells ≤ mc) (hms : slots ≤ ms) : W p l e R s m args below meth c H locs cells slots (vx_MQ below (XI D cy B L K P J res) XC args s mc ms (fun q => B ≤ q)) (F0 m pc ls [iv r]) := by
  subst he
  obtain ⟨hx, hb, -, -, hlocks, hFK, hFZ⟩ := C0
  exact W.widen hmc hms (vx_ret (W.iret hx hb hr (fun t ht hW => ⟨⟨_, (), rfl, ⟨rfl, rfl, rr⟩, hF.world hFK hFZ ht hW⟩, hF.2.2.1.F ht⟩) (fun q hq => hF.2.2.1.2.2 q hq) hdg (hlocks := hlocks)))
theorem fl_zretX {r : Int} {res : Nat × Int × IT} (C0 : FC D cy B p s m meth c own cc nL) (hF : FS D cy B L K P J s.heap I H locs) (hr : meth.sig.returnType = some .boolean) (rr : rg r) (h01 : r = 0 ∨ r = 1) (he : (0, r, I) = res) (hdg : decode cc pc = .ok (.ireturn, 1)) (hmc : cells ≤ mc) (hms : slots ≤ ms) : W p l e R s m args below meth c H locs cells slots (vx_MQ below (XI D cy B L K P J res) XC args s mc ms (fun q => B ≤ q)) (F0 m pc ls [iv r]) := by
  subst he
  obtain ⟨hx, hb, -, -, hlocks, hFK, hFZ⟩ := C0
  exact W.widen hmc hms (vx_ret (W.zret hx hb hr (by rcases h01 with rfl | rfl <;> rfl) (fun t ht hW => ⟨⟨_, (), rfl, ⟨rfl, rfl, rr⟩, hF.world hFK hFZ ht hW⟩, hF.2.2.1.F ht⟩) (fun q hq => hF.2.2.1.2.2 q hq) hdg (hlocks := hlocks)))
theorem fl_vretX {res : Nat × Unit × IT} (C0 : FC D cy B p s m meth c own cc nL) (hF : FS D cy B L K P J s.heap I H locs) (hr : meth.sig.returnType = none) (he : (0, (), I) = res) (hdg : decode cc pc = .ok (.return_, 1)) (hmc : cells ≤ mc) (hms : slots ≤ ms) : W p l e R s m args below meth c H locs cells slots (vx_MQ below (XV D cy B L K P J res) XC args s mc ms (fun q => B ≤ q)) (F0 m pc ls []) := by
  subst he
  obtain ⟨hx, hb, -, -, hlocks, hFK, hFZ⟩ := C0
  exact W.widen hmc hms (vx_ret (W.vret hx hb hr (fun t ht hW => ⟨⟨(), rfl, rfl, hF.world hFK hFZ ht hW⟩, hF.2.2.1.F ht⟩) (fun q hq => hF.2.2.1.2.2 q hq) hdg (hlocks := hlocks)))
theorem fl_aretX {a : Nat} {res : Nat × Nat × IT} {C : String} (C0 : FC D cy B p s m meth c own cc nL) (hF : FS D cy B L K P J s.heap I H locs) (hr : meth.sig.returnType = some (.object C)) (he : (0, a, I) = res) (hdg : decode cc pc = .ok (.areturn, 1)) (hmc : cells ≤ mc) (hms : slots ≤ ms) : W p l e R s m args below meth c H locs cells slots (vx_MQ below (XR D cy B L K P J res) XC args s mc ms (fun q => B ≤ q)) (F0 m pc ls [.ref a]) := by
  subst he
  obtain ⟨hx, hb, -, -, hlocks, hFK, hFZ⟩ := C0
  exact W.widen hmc hms (vx_ret (W.aret hx hb hr (Or.inl ⟨_, rfl⟩) (Or.inr ⟨_, rfl⟩) (fun t ht hW => ⟨⟨(), _, rfl, rfl, rfl, hF.world hFK hFZ ht hW⟩, hF.2.2.1.F ht⟩) (fun q hq => hF.2.2.1.2.2 q hq) hdg (hlocks := hlocks)))
variable {y : MethodName} {bytes : ByteArray} {maxL idx co n b ci : Nat} {ret : Option FieldType} {rm : Room} {C : String} {T : u_T} {ty : Nat → FieldType}
theorem fl_runVX (C0 : FC D cy B p s m meth c own cc nL) (hF : FS D cy B L K P J s.heap I H locs) (hsz : ls.size = nL) (hC : Cls ci C T ty) (h : K b = co) (ho : cok co ci = true)
    (hM : vx_Met l y [.code y bytes maxL ret] rm (va_Pc (.ref b :: As) (FW D cy B L K P J I)) Qc XC mc ms (fun q => B ≤ q)) (w1 : Cond.methodLink own idx y ∈ AW) (w2 : Cond.instanceMethod y ∈ AW) (w3 : Cond.selects C y y ∈ AW) (w4 : Cond.initialized C ∈ AW) (w5 : Cond.code y bytes maxL ret ∈ AW)
    (hyC : y.cls = C) (hn : As.length = n) (hd : plainM y n) (hrc : rm.cells = mc) (hrs : rm.slots = ms) (hR : rooms R rm maxL) (hst : st0 = As.reverse ++ .ref b :: rest) (hW : (rest.map fun v => v.category).sum ≤ 8) (hdg : decode cc pc = .ok (.invokevirtual idx, 3)) (hf : cells + mc ≤ R.cells ∧ slots + ms ≤ R.slots) :
    vx_Run p l e R s m args below meth c H locs cells slots mc ms (F0 m pc ls st0) rest (Qc (Value.ref b :: As).toArray) XC (fun q => B ≤ q) := by
  obtain ⟨h1, h2, h3⟩ := cok_of ho
  subst h
  obtain ⟨hx, hb, hml, hown, -, hFK, hFZ⟩ := C0
  exact vx_runV (Ts := AW) ⟨hx, hb, hml, hown, hFK.use⟩ hM (cwV n hFK.use (gi_c w1 rfl (gi_c w2 rfl (gi_c w3 rfl (gi_c w4 rfl (gi_1 w5 rfl))))) rfl hrc hrs ⟨hyC, hd⟩ hR) ⟨FW.blind, hF.recv hC hFK h1 h2 h3, hF.pre hFK hFZ _⟩ rfl hn hsz hst (lv_room hW) hdg hf
theorem fl_runSX (C0 : FC D cy B p s m meth c own cc nL) (hF : FS D cy B L K P J s.heap I H locs) (hsz : ls.size = nL)
    (hM : vx_Met l y [.code y bytes maxL ret] rm (va_Pc As (FW D cy B L K P J I)) Qc XC mc ms (fun q => B ≤ q)) (w1 : Cond.methodLink own idx y ∈ AW) (w2 : Cond.static y ∈ AW) (w4 : Cond.initialized y.cls ∈ AW) (w5 : Cond.code y bytes maxL ret ∈ AW)
    (hn : As.length = n) (hd : plainM y n) (hrc : rm.cells = mc) (hrs : rm.slots = ms) (hR : rooms R rm maxL) (hst : st0 = As.reverse ++ rest) (hW : (rest.map fun v => v.category).sum ≤ 8) (hdg : decode cc pc = .ok (.invokestatic idx, 3)) (hf : cells + mc ≤ R.cells ∧ slots + ms ≤ R.slots) :
    vx_Run p l e R s m args below meth c H locs cells slots mc ms (F0 m pc ls st0) rest (Qc As.toArray) XC (fun q => B ≤ q) := by
  obtain ⟨hx, hb, hml, hown, -, hFK, hFZ⟩ := C0
  exact vx_runS (Ts := AW) ⟨hx, hb, hml, hown, hFK.use⟩ hM ⟨callB_of n hFK.use (gi_1 w5 rfl) rfl hrc hrs (hFK.use _ w4) (hFK.use _ w1) hd hR, hFK.use _ w2⟩ ⟨FW.blind, hF.pre hFK hFZ _⟩ rfl hn hsz hst (lv_room hW) hdg hf
theorem FS.afterX {I' : IT} {t : State} {H1 : Heap} {locs1 : List Loc} (hF : FS D cy B L K P J s.heap I H locs) (ht : t.heap = H1) (hS : va_S (fun q => B ≤ q) s.heap H1 locs1) (hw : FX D cy B L K P J I' t) : FS D cy B L K P J s.heap I' H1 locs1 := by
  subst ht
  exact ⟨hw.1, hw.2.1, hS, hF.2.2.2.1, hF.2.2.2.2.1, hF.2.2.2.2.2.1, hw.2.2.2.2.2.2⟩
theorem fl_xi {res : Nat × Int × IT} {a : Array Value} (hF : FS D cy B L K P J s.heap I H locs) (hr : vx_Run p l e R s m args below meth c H locs cells slots mc ms (F0 m pc ls st0) rest (XI D cy B L K P J res a) (XX D cy B L K P J res) (fun q => B ≤ q))
    (kk : res.1 = 0 → ∀ (H1 : Heap) (locs1 : List Loc), FS D cy B L K P J s.heap res.2.2 H1 locs1 → rg res.2.1 → W p l e R s m args below meth c H1 locs1 (cells + mc) (slots + ms) Q (F0 m (pc + 3) ls (iv res.2.1 :: rest)))
    (kx : res.1 ≠ 0 → ∀ (H1 : Heap) (locs1 : List Loc) (q : Addr) (ce : Cell), FS D cy B L K P J s.heap res.2.2 H1 locs1 → H1[q]? = some ce → ce.vm = .none → s.vm.findClass (exn res.1) = some ce.cls → vx_W p l e R s m args below meth c H1 locs1 (cells + mc) (slots + ms) Q (F0 m pc ls rest) q) : W p l e R s m args below meth c H locs cells slots Q (F0 m pc ls st0) :=
  vx_calli hr hF.2.2.1 (fun _ _ h => h) (fun _ h => h) (fun _ _ h => h) (fun E ce q9 u t H1 locs1 ht _ hp hw _ _ hS e1 e2 e3 => by obtain ⟨rfl, hw⟩ := hw; exact kx hp H1 locs1 q9 ce (hF.afterX ht hS hw) e1 e2 e3) (fun r0 u t H1 locs1 ht _ hp hw _ _ hS => by obtain ⟨h0, rfl, hp⟩ := hp; exact kk h0 H1 locs1 (hF.after ht hS hw) hp)
theorem fl_xv {res : Nat × Unit × IT} {a : Array Value} (hF : FS D cy B L K P J s.heap I H locs) (hr : vx_Run p l e R s m args below meth c H locs cells slots mc ms (F0 m pc ls st0) rest (XV D cy B L K P J res a) (XX D cy B L K P J res) (fun q => B ≤ q))
    (kk : res.1 = 0 → ∀ (H1 : Heap) (locs1 : List Loc), FS D cy B L K P J s.heap res.2.2 H1 locs1 → W p l e R s m args below meth c H1 locs1 (cells + mc) (slots + ms) Q (F0 m (pc + 3) ls rest))
    (kx : res.1 ≠ 0 → ∀ (H1 : Heap) (locs1 : List Loc) (q : Addr) (ce : Cell), FS D cy B L K P J s.heap res.2.2 H1 locs1 → H1[q]? = some ce → ce.vm = .none → s.vm.findClass (exn res.1) = some ce.cls → vx_W p l e R s m args below meth c H1 locs1 (cells + mc) (slots + ms) Q (F0 m pc ls rest) q) : W p l e R s m args below meth c H locs cells slots Q (F0 m pc ls st0) :=
  vx_callv hr hF.2.2.1 (fun _ _ h => h) (fun _ h => h) (fun _ _ h => h) (fun E ce q9 u t H1 locs1 ht _ hp hw _ _ hS e1 e2 e3 => by obtain ⟨rfl, hw⟩ := hw; exact kx hp H1 locs1 q9 ce (hF.afterX ht hS hw) e1 e2 e3) (fun u t H1 locs1 ht _ hp hw _ _ hS => kk hp H1 locs1 (hF.after ht hS hw))
theorem vx_callr0 {S SX : Type} {post : S → Prop} {px : SX → Prop} {Bw : S → Nat → State → Prop} {BX : String → SX → State → Prop} {A0 A1 AX : Nat → Prop} {H0 : Heap} {free : Addr → Prop} {a : Array Value} (hr : vx_Run p l e R s m args below meth c H locs cells slots mc ms (F0 m pc ls st0) rest (va_Qr post Bw A1 a) (vx_X px BX AX) free) (hS : va_S A0 H0 H locs) (hA : ∀ q, q < H.size → A1 q → A0 q) (hf : ∀ q, free q → A0 q) (hAX : ∀ q, q < H.size → AX q → A0 q)
    (kx : ∀ (E : String) (ce : Cell) (q9 : Addr) (u : SX) (t : State) (H1 : Heap) (locs1 : List Loc), t.heap = H1 → s.vm.Alike t.vm → px u → BX E u t → H.size ≤ H1.size → (∀ q : Nat, q < H.size → ¬ AX q → H1[q]? = H[q]?) → va_S A0 H0 H1 locs1 → H1[q9]? = some ce → ce.vm = .none → s.vm.findClass E = some ce.cls → vx_W p l e R s m args below meth c H1 locs1 (cells + mc) (slots + ms) Q (F0 m pc ls rest) q9)
    (kk : ∀ (u : S) (ra : Nat) (t : State) (H1 : Heap) (locs1 : List Loc), t.heap = H1 → s.vm.Alike t.vm → post u → Bw u ra t → H.size ≤ H1.size → (∀ q : Nat, q < H.size → ¬ A1 q → H1[q]? = H[q]?) → va_S A0 H0 H1 locs1 → W p l e R s m args below meth c H1 locs1 (cells + mc) (slots + ms) Q (F0 m (pc + 3) ls (.ref ra :: rest))) : W p l e R s m args below meth c H locs cells slots Q (F0 m pc ls st0) := by
  intro T hT X
  rcases hr T hT X with ⟨v, st₀, t, T', L9, h0, X', hL, e1, e2, ⟨⟨u, ra, hv, hp, hb⟩, hz, hk⟩, st⟩ | ⟨q, st₀, t, T', L9, E, ce, h0, X', hL, e1, e2, ⟨u, hp, hb, hz, hk⟩, h1, h2, h3, st⟩
  · cases hv
    rw [h0] at hz hk
    have hS1 := vx_keep h0 e1 hS hA hf hL ⟨by rw [h0]; exact hz, by rw [h0]; exact hk⟩
    obtain ⟨t2, a1, b1⟩ := kk u ra t T'.heap (locs ++ L9) e1.symm (by rw [← e2]; exact X'.warmed.alike) hp hb (by rw [e1]; exact hz) (fun q h1 h2 => by rw [e1]; exact hk q h1 h2) hS1.2.2 T' rfl X'
    exact ⟨t2, st t2 a1, b1⟩
  · rw [h0] at hz hk
    have hS1 := vx_keep h0 e1 hS hAX hf hL ⟨by rw [h0]; exact hz, by rw [h0]; exact hk⟩
    obtain ⟨t2, a1, b1⟩ := kx E ce q u t T'.heap (locs ++ L9) e1.symm (by rw [← e2]; exact X'.warmed.alike) hp hb (by rw [e1]; exact hz) (fun q h1 h2 => by rw [e1]; exact hk q h1 h2) hS1.2.2 (by rw [e1]; exact h1) h2 h3 T' rfl X'
    exact ⟨t2, st.trans a1, b1⟩
theorem fl_xr {res : Nat × Nat × IT} {a : Array Value} (hF : FS D cy B L K P J s.heap I H locs) (hr : vx_Run p l e R s m args below meth c H locs cells slots mc ms (F0 m pc ls st0) rest (XR D cy B L K P J res a) (XX D cy B L K P J res) (fun q => B ≤ q))
    (kk : res.1 = 0 → ∀ (H1 : Heap) (locs1 : List Loc), FS D cy B L K P J s.heap res.2.2 H1 locs1 → W p l e R s m args below meth c H1 locs1 (cells + mc) (slots + ms) Q (F0 m (pc + 3) ls (.ref res.2.1 :: rest)))
    (kx : res.1 ≠ 0 → ∀ (H1 : Heap) (locs1 : List Loc) (q : Addr) (ce : Cell), FS D cy B L K P J s.heap res.2.2 H1 locs1 → H1[q]? = some ce → ce.vm = .none → s.vm.findClass (exn res.1) = some ce.cls → vx_W p l e R s m args below meth c H1 locs1 (cells + mc) (slots + ms) Q (F0 m pc ls rest) q) : W p l e R s m args below meth c H locs cells slots Q (F0 m pc ls st0) :=
  vx_callr0 hr hF.2.2.1 (fun _ _ h => h) (fun _ h => h) (fun _ _ h => h) (fun E ce q9 u t H1 locs1 ht _ hp hw _ _ hS e1 e2 e3 => by obtain ⟨rfl, hw⟩ := hw; exact kx hp H1 locs1 q9 ce (hF.afterX ht hS hw) e1 e2 e3) (fun u ra t H1 locs1 ht _ hp hw _ _ hS => by obtain ⟨rfl, hw⟩ := hw; exact kk hp H1 locs1 (hF.after ht hS hw))
end FT
theorem fl_bodyX {l : Launch} {D : va_G} {cy : Nat → ClassId} {B : Nat} {L : List Nat} {K : KT} {P : PT} {J I : IT} {y : MethodName} {cc : ByteArray} {maxL : Nat} {ret : Option FieldType} {rm : Room} {Qc : Array Value → State → Outcome → State → Prop} {XC : String → State → State → Prop} {mc ms : Nat} {own : String} (av : List Value) (hy : plainName y.cls = true) (ho : y.cls = own) (hn : (lg_sl av).length ≤ maxL)
    (body : ∀ (p : Program) (e : Env) (s : State) (m : MethodId) (args : Array Value) (below : List Frame) (meth : Method) (c : Code) (ls : Array Slot), FC D cy B p s m meth c own cc maxL → meth.sig.returnType = ret → (∀ x ∈ c.exceptionTable.toList, False) → FS D cy B L K P J s.heap I s.heap [] → lv_has ls maxL (lv_args 0 av) →
      W p l e rm s m args below meth c s.heap [] 0 0 (vx_MQ below Qc XC args s mc ms (fun q => B ≤ q)) (F0 m 0 ls [])) : vx_Met l y [.code y cc maxL ret] rm (va_Pc av (FW D cy B L K P J I)) Qc XC mc ms (fun q => B ≤ q) := by
  refine vx_ofW (cc := cc) (maxL := maxL) (ret := ret) hy rfl ?_
  intro p e s m args below meth c s₁ B0 hml ht hv
  obtain ⟨rfl, hF, hFK, hFZ⟩ := hv
  subst ho
  have hl := lv_entry av (n := maxL) hn
  rw [lg_entry_eq]
  generalize (lg_sl av ++ List.replicate (maxL - (lg_sl av).length) Slot.unset).toArray = ls at hl ⊢
  exact body p e s m _ below meth c ls (FC.ofB B0 hml hFK hFZ) B0.returns ht hF hl
end
section
/-! making: the pool grows -/
def clrN (P : PT) (q : Nat) : PT := fun b j => if b = q then 0 else P b j
def cpyP (P : PT) (b a sp dp n : Nat) : PT := fun c j => if c = a ∧ dp ≤ j ∧ j < dp + n then P b (sp + (j - dp)) else P c j
theorem va_up_s {α : Type} (f : Nat → α) (k : Nat) (v : α) : va_up f k v k = v := va_up_self f k v
section FA
variable {p : Program} {l : Launch} {e : Env} {R : Room} {s : State} {m : MethodId} {args : Array Value} {below : List Frame} {meth : Method} {c : Code} {H : Heap} {locs : List Loc} {cells slots : Nat} {Q : State → Prop}
variable {D : va_G} {cy : Nat → ClassId} {B : Nat} {L : List Nat} {K : KT} {P : PT} {J I : IT} {own : String} {cc : ByteArray} {nL pc : Nat} {ls : Array Slot} {rest st0 As : List Value} {H0 : Heap}
variable {ci k a b idx co t n : Nat} {C nm ds host : String} {T : u_T} {ty : Nat → FieldType} {x : Int}
/-- the pool with a new cell q -/
theorem fcell_new {q co : Nat} {b : Nat} (h : b ≠ q) : fcell cy (va_up K q co) (clrN P q) J (clr I q) b = fcell cy K P J I b := by
  have h0 : va_up K q co b = K b := va_up_ne _ _ h
  have h1 : ∀ j, clrN P q b j = P b j := fun j => by simp [clrN, h]
  have h2 : ∀ j, clr I q b j = I b j := fun j => by simp [clr, h]
  have h3 : fobj cy (clrN P q) (clr I q) (kci (K b)) b = fobj cy P I (kci (K b)) b := by
    unfold fobj
    apply List.map_congr_left
    intro j _
    simp only [fval, h1, h2]
  have h4 : farr cy (clrN P q) J (clr I q) (K b % 4) b = farr cy P J I (K b % 4) b := by
    unfold farr
    simp only [h1, h2]
  simp only [fcell, h0, h3, h4]
theorem FS.grow (hF : FS D cy B L K P J H0 I H locs) {q co : Nat} {e1 : va_E} {H1 : Heap} (hp : va_P D vwCl (va_pl L (fcell cy K P J I) ++ [(q, e1)]) H1) (hd : va_D (fun q : Nat => B ≤ q) (va_pl L (fcell cy K P J I) ++ [(q, e1)])) (hs : va_S (fun q : Nat => B ≤ q) H0 H1 locs) (he : fcell cy (va_up K q co) (clrN P q) J (clr I q) q = e1) : q ∉ L ∧ FS D cy B (L ++ [q]) (va_up K q co) (clrN P q) J H0 (clr I q) H1 locs := by
  have hq : q ∉ L := va_pl_fresh2 (X := []) (by rw [List.nil_append]; exact hd)
  have h1 : va_pl L (fcell cy K P J I) ++ [(q, e1)] = va_pl (L ++ [q]) (fcell cy (va_up K q co) (clrN P q) J (clr I q)) := by
    rw [va_pl_push hq]
    apply va_pl_congr
    intro b
    by_cases hb : b = q
    · subst hb
      rw [va_up_self, he]
    · rw [va_up_ne _ _ hb, fcell_new hb]
  rw [h1] at hp hd
  refine ⟨hq, hp, hd, hs, fun b hb => ?_, hF.2.2.2.2.1, hF.2.2.2.2.2.1, rgI_clr hF.2.2.2.2.2.2 q⟩
  by_cases hbq : b = q
  · subst hbq
    exact List.mem_append_right _ List.mem_cons_self
  · exact List.mem_append_left _ (hF.2.2.2.1 b (by rwa [va_up_ne _ _ hbq] at hb))
theorem fl_new (hC : Cls ci C T ty) (hdef : ∀ j, j < knf ci → defaultValue (ty j) = if krf ci j = true then .null else .int 0) (C0 : FC D cy B p s m meth c own cc nL) (hF : FS D cy B L K P J s.heap I H locs) (ho : cok co ci = true) (w1 : Cond.classLink own idx C ∈ AW) (w2 : Cond.instantiable C (knf ci) ∈ AW) (w3 : Cond.initialized C ∈ AW) (hc : cells + 1 ≤ R.cells) (hs : slots + knf ci ≤ R.slots) (hdg : decode cc pc = .ok (.new idx, 3))
    (kk : ∀ (q : Nat) (H1 : Heap), q ∉ L → FS D cy B (L ++ [q]) (va_up K q co) (clrN P q) J s.heap (clr I q) H1 locs → W p l e R s m args below meth c H1 locs (cells + 1) (slots + knf ci) Q (F0 m (pc + 3) ls (.ref q :: rest))) : W p l e R s m args below meth c H locs cells slots Q (F0 m pc ls rest) := by
  obtain ⟨h1, h2, h3⟩ := cok_of ho
  obtain ⟨hx, hb, hml, hown, -, hFK, hFZ⟩ := C0
  have hfs : ∀ q, fcell cy (va_up K q co) (clrN P q) J (clr I q) q = .inr (ci, fobj cy (clrN P q) (clr I q) ci q) := fun q => fcell_obj (by rw [va_up_self]; exact h2) (by rw [va_up_self]; exact h3)
  have hfo : ∀ q, fobj cy (clrN P q) (clr I q) ci q = fobj cy (fun _ _ => 0) (fun _ _ => 0) ci 0 := fun q => by
    unfold fobj
    apply List.map_congr_left
    intro j _
    simp [fval, clrN, clr]
  refine va_new hx hb hFK.use hC.2.1 ty hC.2.2.1 hown (hFK.use _ w1) (hFK.use _ w2) (hFK.use _ w3) hFK.1 hF.1 hF.2.1 hF.2.2.1 (fun q hq => Nat.le_trans hF.2.2.2.2.2.1 hq) hC.1 (fs := fobj cy (fun _ _ => 0) (fun _ _ => 0) ci 0) ?_ hc hs hdg ?_
  · intro j hj
    rw [hdef j hj]
    unfold vp_V
    rw [List.getD_eq_getElem?_getD, fobj_at _ _ _ _ _ _ hj]
    unfold fval
    split
    · rfl
    · rfl
  · intro q H1 g1 g2 g3
    obtain ⟨g4, g5⟩ := hF.grow g1 g2 g3 (by rw [hfs, hfo])
    exact kk q H1 g4 g5
theorem cy_of {cA : ClassId} {ty : FieldType} {k : Nat} (hK : va_K D vwCl (ctys cy ++ [(cA, ty)]) s) (h : (ctys cy)[k]? = some (cy k, ty)) : cA = cy k := by
  have h1 := (hK.2 4 (cA, ty) rfl).2
  have hl : k < 4 := (List.getElem?_eq_some_iff.mp h).1
  have h2 := (hK.2 k (cy k, ty) (by rw [List.getElem?_append_left hl]; exact h)).2
  cases ty with
  | object C =>
    obtain ⟨_, _, -, -, -, e1⟩ := h1
    obtain ⟨_, _, -, -, -, e2⟩ := h2
    exact Option.some.inj (e1.symm.trans e2)
  | _ => exact Option.some.inj (Eq.trans (Eq.symm (show s.vm.findClass _ = some cA from h1)) h2)
theorem fl_newi (C0 : FC D cy B p s m meth c own cc nL) (hF : FS D cy B L K P J s.heap I H locs) (rx : rg x) (hx0 : 0 ≤ x) (hxn : x.toNat ≤ 100000) (w1 : Cond.arrayClass .int ∈ AW) (hc : cells + 1 ≤ R.cells) (hs : slots + x.toNat ≤ R.slots) (hdg : decode cc pc = .ok (.newarray .int, 2))
    (kk : ∀ (q : Nat) (H1 : Heap), q ∉ L → FS D cy B (L ++ [q]) (va_up K q (100 + 4 * x.toNat)) (clrN P q) J s.heap (clr I q) H1 locs → W p l e R s m args below meth c H1 locs (cells + 1) (slots + x.toNat) Q (F0 m (pc + 2) ls (.ref q :: rest))) : W p l e R s m args below meth c H locs cells slots Q (F0 m pc ls (iv x :: rest)) := by
  obtain ⟨hx, hb, hml, hown, -, hFK, hFZ⟩ := C0
  refine va_newa (atype := .int) hx hb (hFK.use _ w1) rfl hFK.1 hF.1 hF.2.1 hF.2.2.1 (fun q hq => Nat.le_trans hF.2.2.2.2.2.1 hq) (a0 := (x.toNat, .inl (fun _ => 0))) (N' := x.toNat) (fun cA => rfl) ?_ (of_clamp rx) ?_ hc hs hdg ?_
  · intro h9
    have := (of_lt rx ⟨by decide, by decide⟩ (y := 0)).mp h9
    omega
  · show x.toNat * 4 ≤ _
    omega
  · intro q cA H1 g0 g1 g2 g3
    have hcA := cy_of (k := 0) g0 rfl
    subst hcA
    obtain ⟨g4, g5⟩ := hF.grow (co := 100 + 4 * x.toNat) g1 g2 g3 ((fcell_arr (n := x.toNat) (kd := 0) (va_up_self _ _ _) (by decide)).trans (by rw [farr_int]; simp [clr]))
    exact kk q H1 g4 g5
theorem fl_newz (C0 : FC D cy B p s m meth c own cc nL) (hF : FS D cy B L K P J s.heap I H locs) (rx : rg x) (hx0 : 0 ≤ x) (hxn : x.toNat ≤ 100000) (w1 : Cond.arrayClass .boolean ∈ AW) (hc : cells + 1 ≤ R.cells) (hs : slots + x.toNat ≤ R.slots) (hdg : decode cc pc = .ok (.newarray .boolean, 2))
    (kk : ∀ (q : Nat) (H1 : Heap), q ∉ L → FS D cy B (L ++ [q]) (va_up K q (101 + 4 * x.toNat)) (clrN P q) J s.heap (clr I q) H1 locs → W p l e R s m args below meth c H1 locs (cells + 1) (slots + x.toNat) Q (F0 m (pc + 2) ls (.ref q :: rest))) : W p l e R s m args below meth c H locs cells slots Q (F0 m pc ls (iv x :: rest)) := by
  obtain ⟨hx, hb, hml, hown, -, hFK, hFZ⟩ := C0
  refine va_newa (atype := .boolean) hx hb (hFK.use _ w1) rfl hFK.1 hF.1 hF.2.1 hF.2.2.1 (fun q hq => Nat.le_trans hF.2.2.2.2.2.1 hq) (a0 := (x.toNat, .inl (fun _ => 0))) (N' := x.toNat) (fun cA => rfl) ?_ (of_clamp rx) ?_ hc hs hdg ?_
  · intro h9
    have := (of_lt rx ⟨by decide, by decide⟩ (y := 0)).mp h9
    omega
  · show x.toNat * 1 ≤ _
    omega
  · intro q cA H1 g0 g1 g2 g3
    have hcA := cy_of (k := 1) g0 rfl
    subst hcA
    obtain ⟨g4, g5⟩ := hF.grow (co := 101 + 4 * x.toNat) g1 g2 g3 ((fcell_arr (n := x.toNat) (kd := 1) ((va_up_self _ _ _).trans (by omega)) (by decide)).trans (by rw [farr_bool]; simp [clr]))
    exact kk q H1 g4 g5
theorem fl_newr (C0 : FC D cy B p s m meth c own cc nL) (hF : FS D cy B L K P J s.heap I H locs) (rx : rg x) (hx0 : 0 ≤ x) (hxn : x.toNat ≤ 100000) (w1 : Cond.classLink own idx "java/lang/Object" ∈ AW) (hc : cells + 1 ≤ R.cells) (hs : slots + x.toNat ≤ R.slots) (hdg : decode cc pc = .ok (.anewarray idx, 3))
    (kk : ∀ (q : Nat) (H1 : Heap), q ∉ L → FS D cy B (L ++ [q]) (va_up K q (102 + 4 * x.toNat)) (clrN P q) J s.heap (clr I q) H1 locs → W p l e R s m args below meth c H1 locs (cells + 1) (slots + x.toNat) Q (F0 m (pc + 3) ls (.ref q :: rest))) : W p l e R s m args below meth c H locs cells slots Q (F0 m pc ls (iv x :: rest)) := by
  obtain ⟨hx, hb, hml, hown, -, hFK, hFZ⟩ := C0
  refine va_newq hx hb hown (hFK.use _ w1) hFK.2.2.2.1 hFK.1 hF.1 hF.2.1 hF.2.2.1 (fun q hq => Nat.le_trans hF.2.2.2.2.2.1 hq) (N' := x.toNat) ?_ (of_clamp rx) ?_ hc hs hdg ?_
  · intro h9
    have := (of_lt rx ⟨by decide, by decide⟩ (y := 0)).mp h9
    omega
  · omega
  · intro q cA H1 g0 g1 g2 g3
    have hcA := cy_of (k := 2) g0 rfl
    subst hcA
    obtain ⟨g4, g5⟩ := hF.grow (co := 102 + 4 * x.toNat) g1 g2 g3 ((fcell_arr (n := x.toNat) (kd := 2) ((va_up_self _ _ _).trans (by omega)) (by decide)).trans (by rw [farr_ref]; simp [clrN, rfo]))
    exact kk q H1 g4 g5
/-- a reference of an object, or of a row, is set -/
theorem fcell_upP {b2 : Nat} {v : Nat} (h : b2 ≠ a) : fcell cy K (up P a k v) J I b2 = fcell cy K P J I b2 := by
  have h1 : ∀ j, up P a k v b2 j = P b2 j := fun j => up_a P k j v h
  have h2 : fobj cy (up P a k v) I (kci (K b2)) b2 = fobj cy P I (kci (K b2)) b2 := by
    unfold fobj
    apply List.map_congr_left
    intro j _
    simp only [fval, h1]
  have h3 : farr cy (up P a k v) J I (K b2 % 4) b2 = farr cy P J I (K b2 % 4) b2 := by
    unfold farr
    simp only [h1]
  simp only [fcell, h2, h3]
theorem fl_putFr {v : Nat} (hC : Cls ci C T ty) (C0 : FC D cy B p s m meth c own cc nL) (hF : FS D cy B L K P J H0 I H locs) (hin : meth.name = "<init>") (h : K a = co) (ho : gok co ci k true = true) (hv : 1 < v) (hT : (T k).2.2.2 = true ∧ (T k).2.1 = nm ∧ (T k).2.2.1 = ds ∧ (T k).1 = own) (hfit : narrow (ty k) (.ref v) = .ref v ∧ fits (ty k) (.ref v) = true) (hw : Cond.fieldLink own idx (T k).1 nm ds ∈ AW) (hdg : decode cc pc = .ok (.putfield idx, 3))
    (kk : ∀ (H1 : Heap) (locs1 : List Loc), FS D cy B L K (up P a k v) J H0 I H1 locs1 → W p l e R s m args below meth c H1 locs1 cells slots Q (F0 m (pc + 3) ls rest)) : W p l e R s m args below meth c H locs cells slots Q (F0 m pc ls (.ref v :: .ref a :: rest)) := by
  obtain ⟨h1, h2, h3, h4, h5⟩ := gok_of ho
  subst h
  obtain ⟨hx, hb, -, hown, -, hFK, -⟩ := C0
  obtain ⟨k0, hk0⟩ := hF.get h1
  have hk1 := hk0
  rw [fcell_obj h2 h3] at hk0
  obtain ⟨hfin, rfl, rfl, hdecl⟩ := hT
  refine va_putF hx hb hFK.use hC.2.1 ty hC.2.2.1 hC.2.2.2 hown hFK.1 hF.1 hF.2.1 hF.2.2.1 k0 hk0 hC.1 k h4 (hFK.use _ hw) (fun _ h => h) hfin hin hdecl (hC.2.2.1 k h4) hfit.1 hfit.2 (by rw [fobj_len]; exact h4) hdg ?_
  intro H1 locs1 g1 g2 g3
  have hset : (fobj cy P I ci a).set k (.ref v) = fobj cy (up P a k v) I ci a := fobj_set h4 (by simp only [fval, h5, if_true, up_s, rfo_ne hv]) (fun j hj => by simp [fval, up_k P a a v hj])
  have he := fl_set (g := fcell cy K (up P a k v) J I) hF.2.1 (hF.2.2.2.1 a h1) hk1 (fcell_obj h2 h3) (fun b hb => fcell_upP hb)
  rw [hset, he] at g1 g2
  exact kk H1 locs1 ⟨g1, g2, g3, hF.2.2.2⟩
theorem fl_putr {v : Nat} (hC : Cls ci C T ty) (C0 : FC D cy B p s m meth c own cc nL) (hF : FS D cy B L K P J H0 I H locs) (h : K a = co) (ho : gok co ci k true = true) (hv : 1 < v) (hT : (T k).2.2.2 = false ∧ (T k).2.1 = nm ∧ (T k).2.2.1 = ds) (hfit : narrow (ty k) (.ref v) = .ref v ∧ fits (ty k) (.ref v) = true) (hw : Cond.fieldLink own idx (T k).1 nm ds ∈ AW) (hdg : decode cc pc = .ok (.putfield idx, 3))
    (kk : ∀ (H1 : Heap) (locs1 : List Loc), FS D cy B L K (up P a k v) J H0 I H1 locs1 → W p l e R s m args below meth c H1 locs1 cells slots Q (F0 m (pc + 3) ls rest)) : W p l e R s m args below meth c H locs cells slots Q (F0 m pc ls (.ref v :: .ref a :: rest)) := by
  obtain ⟨h1, h2, h3, h4, h5⟩ := gok_of ho
  subst h
  obtain ⟨hx, hb, -, hown, -, hFK, -⟩ := C0
  obtain ⟨k0, hk0⟩ := hF.get h1
  have hk1 := hk0
  rw [fcell_obj h2 h3] at hk0
  obtain ⟨hfin, rfl, rfl⟩ := hT
  refine va_put hx hb hFK.use hC.2.1 ty hC.2.2.1 hC.2.2.2 hown hFK.1 hF.1 hF.2.1 hF.2.2.1 k0 hk0 hC.1 k h4 (hFK.use _ hw) (fun _ h => h) hfin (hC.2.2.1 k h4) hfit.1 hfit.2 (by rw [fobj_len]; exact h4) hdg ?_
  intro H1 locs1 g1 g2 g3
  have hset : (fobj cy P I ci a).set k (.ref v) = fobj cy (up P a k v) I ci a := fobj_set h4 (by simp only [fval, h5, if_true, up_s, rfo_ne hv]) (fun j hj => by simp [fval, up_k P a a v hj])
  have he := fl_set (g := fcell cy K (up P a k v) J I) hF.2.1 (hF.2.2.2.1 a h1) hk1 (fcell_obj h2 h3) (fun b hb => fcell_upP hb)
  rw [hset, he] at g1 g2
  exact kk H1 locs1 ⟨g1, g2, g3, hF.2.2.2⟩
theorem fl_putFi (hC : Cls ci C T ty) (C0 : FC D cy B p s m meth c own cc nL) (hF : FS D cy B L K P J H0 I H locs) (hin : meth.name = "<init>") (h : K a = co) (ho : gok co ci k false = true) (hrx : rg x) (hT : (T k).2.2.2 = true ∧ (T k).2.1 = nm ∧ (T k).2.2.1 = "I" ∧ (T k).1 = own) (hw : Cond.fieldLink own idx (T k).1 nm "I" ∈ AW) (hdg : decode cc pc = .ok (.putfield idx, 3))
    (kk : ∀ (H1 : Heap) (locs1 : List Loc), FS D cy B L K P J H0 (up I a k x) H1 locs1 → W p l e R s m args below meth c H1 locs1 cells slots Q (F0 m (pc + 3) ls rest)) : W p l e R s m args below meth c H locs cells slots Q (F0 m pc ls (iv x :: .ref a :: rest)) := by
  obtain ⟨h1, h2, h3, h4, h5⟩ := gok_of ho
  subst h
  obtain ⟨hx, hb, -, hown, -, hFK, -⟩ := C0
  obtain ⟨k0, hk0⟩ := hF.get h1
  have hk1 := hk0
  rw [fcell_obj h2 h3] at hk0
  obtain ⟨hfin, rfl, hds, hdecl⟩ := hT
  refine va_putF hx hb hFK.use hC.2.1 ty hC.2.2.1 hC.2.2.2 hown hFK.1 hF.1 hF.2.1 hF.2.2.1 k0 hk0 hC.1 k h4 (by rw [hds]; exact hFK.use _ hw) (fun _ h => h) hfin hin hdecl (ty := .int) (by rw [hds]; rfl) rfl rfl (by rw [fobj_len]; exact h4) hdg ?_
  intro H1 locs1 g1 g2 g3
  have hset : (fobj cy P I ci a).set k (iv x) = fobj cy P (up I a k x) ci a := fobj_set h4 (by simp [fval, h5, up_s]) (fun j hj => by simp [fval, up_k I a a x hj])
  have he := fl_set (g := fcell cy K P J (up I a k x)) hF.2.1 (hF.2.2.2.1 a h1) hk1 (fcell_obj h2 h3) (fun b hb => fcell_up hb)
  rw [hset, he] at g1 g2
  exact kk H1 locs1 ⟨g1, g2, g3, hF.2.2.2.1, hF.2.2.2.2.1, hF.2.2.2.2.2.1, rgI_up hF.2.2.2.2.2.2 a k hrx⟩
/-- an object that is made becomes one of its kind -/
theorem FS.done (hF : FS D cy B L K P J H0 I H locs) {co2 : Nat} (h1 : K a = co) (h2 : cok co ci = true) (h3 : cok co2 ci = true) : FS D cy B L (va_up K a co2) P J H0 I H locs := by
  obtain ⟨g1, g2, g3⟩ := cok_of h2
  obtain ⟨g4, g5, g6⟩ := cok_of h3
  have hc : ∀ b, fcell cy (va_up K a co2) P J I b = fcell cy K P J I b := fun b => by
    by_cases hb : b = a
    · subst hb
      rw [fcell_obj (ci := ci) (by rw [va_up_self]; exact g5) (by rw [va_up_self]; exact g6), fcell_obj (ci := ci) (by rw [h1]; exact g2) (by rw [h1]; exact g3)]
    · unfold fcell
      rw [va_up_ne _ _ hb]
  have he := va_pl_congr (L := L) hc
  refine ⟨by rw [he]; exact hF.1, by rw [he]; exact hF.2.1, hF.2.2.1, fun b hb => ?_, hF.2.2.2.2⟩
  by_cases hba : b = a
  · subst hba
    exact hF.2.2.2.1 b (by rw [h1]; exact g1)
  · exact hF.2.2.2.1 b (by rwa [va_up_ne _ _ hba] at hb)
theorem fl_objInit {nm0 : MethodName} (C0 : FC D cy B p s m meth c own cc nL) (hsz : ls.size = nL) (w1 : Cond.methodLink own idx Lib.objectInit ∈ AW) (w2 : Cond.instanceMethod Lib.objectInit ∈ AW) (w3 : Cond.code Lib.objectInit ⟨#[0xb1]⟩ 1 none ∈ AW) (hd : decode cc pc = .ok (.invokespecial idx, 3)) (hfr : 1 ≤ R.frames) (hlo : (rest.map fun v => v.category).sum + 12 ≤ R.locals)
    (kk : W p l e R s m args below meth c H locs cells slots Q (F0 m (pc + 3) ls rest)) : W p l e R s m args below meth c H locs cells slots Q (F0 m pc ls (.ref a :: rest)) := by
  obtain ⟨hx, hb, hml, hown, -, hFK, hFZ⟩ := C0
  refine W.objInit hx hb hown (hFK.use _ w1) (hFK.use _ w2) (hFK.use _ w3) rfl (hsz.trans hml.symm) rfl hd hfr ?_ kk
  show 2 * 0 + _ + 12 ≤ _
  omega
end FA
end
section
abbrev SA : Type := List Nat × KT × PT × IT
abbrev PO : Type := List Nat → KT → PT → IT → Prop
def ckP (c x : Prop) : Prop := c ∧ x
def bndP {β : Type} (v : β) (f : β → Prop) : Prop := f v
def bpP {β : Type} (x : Option β) (f : β → Prop) : Prop := ∃ q, x = some q ∧ f q
def biP {β : Type} (x : Option (β × IT)) (f : β → IT → Prop) : Prop := ∃ q I', x = some (q, I') ∧ f q I'
def bxP {β : Type} (x : Option (Nat × β × IT)) (f : β → IT → Prop) (g : Nat → IT → Prop) : Prop := ∃ c q I', x = some (c, q, I') ∧ (c = 0 → f q I') ∧ (c ≠ 0 → g c I')
def nwP (L : List Nat) (K : KT) (P : PT) (I : IT) (co : Nat) (f : Nat → List Nat → KT → PT → IT → Prop) : Prop := ∀ q, q ∉ L → q ≠ 0 → f q (L ++ [q]) (va_up K q co) (clrN P q) (clr I q)
theorem bndP_f {β : Type} {v : β} {f : β → Prop} (h : bndP v f) : ∃ z, v = z ∧ f z := ⟨v, rfl, h⟩
theorem nwP_f {L : List Nat} {K : KT} {P : PT} {I : IT} {co : Nat} {f : Nat → List Nat → KT → PT → IT → Prop} (h : nwP L K P I co f) {q : Nat} (hq : q ∉ L) (h0 : q ≠ 0) : ∃ L1 K1 P1 I1, L ++ [q] = L1 ∧ va_up K q co = K1 ∧ clrN P q = P1 ∧ clr I q = I1 ∧ f q L1 K1 P1 I1 := ⟨_, _, _, _, rfl, rfl, rfl, rfl, h q hq h0⟩
/-- all that was there is as it was, but a -/
def EX (K : KT) (P : PT) (K1 : KT) (P1 : PT) (a : Nat) : Prop := ∀ b, K b ≠ 0 → b ≠ a → K1 b = K b ∧ P1 b = P b
def EK (K K1 : KT) : Prop := ∀ b, K b ≠ 0 → K1 b = K b
theorem EK.rf {K : KT} : EK K K := fun _ _ => rfl
theorem EK.tr {K K1 K2 : KT} (h : EK K K1) (h2 : EK K1 K2) : EK K K2 := fun b hb => (h2 b (by rw [h b hb]; exact hb)).trans (h b hb)
theorem EX.rf {K : KT} {P : PT} {a : Nat} : EX K P K P a := fun _ _ _ => ⟨rfl, rfl⟩
abbrev AVc (D : va_G) (cy : Nat → ClassId) (B : Nat) (J : IT) (K : KT) (P : PT) (a co : Nat) (post : PO) : Array Value → State → Outcome → State → Prop := va_Qv (fun u : SA => post u.1 u.2.1 u.2.2.1 u.2.2.2 ∧ WT u.2.1 u.2.2.1 ∧ EX K P u.2.1 u.2.2.1 a ∧ u.2.1 a = co) (fun u t => FW D cy B u.1 u.2.1 u.2.2.1 J u.2.2.2 t) (fun q => B ≤ q)
abbrev AVm (D : va_G) (cy : Nat → ClassId) (B : Nat) (J : IT) (K : KT) (post : PO) : Array Value → State → Outcome → State → Prop := va_Qv (fun u : SA => post u.1 u.2.1 u.2.2.1 u.2.2.2 ∧ WT u.2.1 u.2.2.1 ∧ EK K u.2.1) (fun u t => FW D cy B u.1 u.2.1 u.2.2.1 J u.2.2.2 t) (fun q => B ≤ q)
abbrev AIm (D : va_G) (cy : Nat → ClassId) (B : Nat) (J : IT) (K : KT) (post : Int → PO) : Array Value → State → Outcome → State → Prop := va_Qi (fun (r : Int32) (u : Int × SA) => (r = Int32.ofInt u.1 ∧ rg u.1) ∧ post u.1 u.2.1 u.2.2.1 u.2.2.2.1 u.2.2.2.2 ∧ WT u.2.2.1 u.2.2.2.1 ∧ EK K u.2.2.1) (fun u t => FW D cy B u.2.1 u.2.2.1 u.2.2.2.1 J u.2.2.2.2 t) (fun q => B ≤ q)
abbrev AXm (D : va_G) (cy : Nat → ClassId) (B : Nat) (J : IT) (K : KT) (post : Nat → PO) : String → State → State → Prop := vx_X (fun u : Nat × SA => u.1 ≠ 0 ∧ post u.1 u.2.1 u.2.2.1 u.2.2.2.1 u.2.2.2.2 ∧ WT u.2.2.1 u.2.2.2.1 ∧ EK K u.2.2.1) (fun E u t => E = exn u.1 ∧ FX D cy B u.2.1 u.2.2.1 u.2.2.2.1 J u.2.2.2.2 t) (fun q => B ≤ q)
section FB
variable {p : Program} {l : Launch} {e : Env} {R : Room} {s : State} {m : MethodId} {args : Array Value} {below : List Frame} {meth : Method} {c : Code} {H : Heap} {locs : List Loc} {cells slots mc ms : Nat} {Q : State → Prop}
variable {D : va_G} {cy : Nat → ClassId} {B : Nat} {L L1 : List Nat} {K K1 K0 : KT} {P P1 P0 : PT} {J I I1 : IT} {own : String} {cc : ByteArray} {nL pc : Nat} {ls : Array Slot} {rest st0 As : List Value} {H0 : Heap}
variable {ci k a b q idx co t n maxL a0 : Nat} {C nm ds host : String} {T : u_T} {ty : Nat → FieldType} {y : MethodName} {bytes : ByteArray} {rm : Room} {Qc : Array Value → State → Outcome → State → Prop} {XC : String → State → State → Prop}
theorem kn (hF : FS D cy B L K P J H0 I H locs) (hq : q ∉ L) (h : K a = co) (hc : (co != 0) = true) : va_up K q t a = co := by
  have h1 : a ∈ L := hF.2.2.2.1 a (by rw [h]; exact bne_iff_ne.mp hc)
  have h2 : a ≠ q := fun e => hq (e ▸ h1)
  rw [va_up_ne _ _ h2, h]
theorem nn (hF : FS D cy B L K P J H0 I H locs) (hq : q ∉ L) (h : K a = co) (hc : (co != 0) = true) : a ≠ q := by
  have h1 : a ∈ L := hF.2.2.2.1 a (by rw [h]; exact bne_iff_ne.mp hc)
  exact fun e => hq (e ▸ h1)
theorem FS.k0 (hF : FS D cy B L K P J H0 I H locs) (hq : q ∉ L) : K q = 0 := Classical.byContradiction (fun h => hq (hF.2.2.2.1 q h))
theorem wn (hF : FS D cy B L K P J H0 I H locs) (hq : q ∉ L) (hWT : WT K P) (ht : ∀ k, tt t k = 0) : WT (va_up K q t) (clrN P q) := by
  intro b k hb
  by_cases hbq : b = q
  · subst hbq
    rw [va_up_self] at hb
    exact absurd (ht k) hb
  · rw [va_up_ne _ _ hbq] at hb ⊢
    have h1 := hWT b k hb
    have h2 : clrN P q b k = P b k := by simp [clrN, hbq]
    rw [h2]
    have h3 : P b k ∈ L := hF.2.2.2.1 _ (by rw [h1]; exact hb)
    have h4 : P b k ≠ q := fun e => hq (e ▸ h3)
    rw [va_up_ne _ _ h4, h1]
/-- a made object's reference is set: what is typed stays so -/
theorem wu (hWT : WT K P) (h : K a = co) (ht : ∀ k, tt co k = 0) {v : Nat} : WT K (up P a k v) := by
  intro b j hb
  have h1 : b ≠ a := by
    intro e
    subst e
    rw [h] at hb
    exact hb (ht j)
  rw [up_a P k j v h1]
  exact hWT b j hb
theorem en (hE : EX K0 P0 K P a0) (hF : FS D cy B L K P J H0 I H locs) (hq : q ∉ L) : EX K0 P0 (va_up K q t) (clrN P q) a0 := by
  intro b hb hba
  obtain ⟨h1, h2⟩ := hE b hb hba
  have h3 : b ∈ L := hF.2.2.2.1 b (by rw [h1]; exact hb)
  have h4 : b ≠ q := fun e => hq (e ▸ h3)
  rw [va_up_ne _ _ h4]
  exact ⟨h1, by rw [← h2]; funext j; simp [clrN, h4]⟩
theorem eu (hE : EX K0 P0 K P a0) {v : Nat} : EX K0 P0 K (up P a0 k v) a0 := by
  intro b hb hba
  obtain ⟨h1, h2⟩ := hE b hb hba
  refine ⟨h1, ?_⟩
  rw [← h2]
  funext j
  exact up_a P k j v hba
/-- behind the constructor of a cell q that is new since K0 -/
theorem ec (hE : EX K0 P0 K P a0) (h : EX K P K1 P1 q) (hq : K0 q = 0) : EX K0 P0 K1 P1 a0 := by
  intro b hb hba
  obtain ⟨h1, h2⟩ := hE b hb hba
  have h3 : b ≠ q := fun e => hb (e ▸ hq)
  obtain ⟨h4, h5⟩ := h b (by rw [h1]; exact hb) h3
  exact ⟨h4.trans h1, h5.trans h2⟩
/-- K0 has nothing at a new cell -/
theorem k00 (hE : EX K0 P0 K P a0) (hF : FS D cy B L K P J H0 I H locs) (hq : q ∉ L) (ha : a0 ≠ q) : K0 q = 0 := by
  refine Classical.byContradiction (fun h => ?_)
  have h1 := (hE q h (Ne.symm ha)).1
  rw [hF.k0 hq] at h1
  exact h h1.symm
theorem ked (hE : EX K0 P0 K P a0) (hco : K a0 = co) : EX K0 P0 (va_up K a0 t) P a0 := by
  intro b hb hba
  obtain ⟨h1, h2⟩ := hE b hb hba
  exact ⟨by rw [va_up_ne _ _ hba]; exact h1, h2⟩
theorem kx (h : EX K P K1 P1 q) (hk : K a = co) (hc : (co != 0) = true) (hn : a ≠ q) : K1 a = co := ((h a (by rw [hk]; exact bne_iff_ne.mp hc) hn).1).trans hk
theorem px (h : EX K P K1 P1 q) (hk : K a = co) (hc : (co != 0) = true) (hn : a ≠ q) {v : Nat} (hp : P a k = v) : P1 a k = v := by rw [(h a (by rw [hk]; exact bne_iff_ne.mp hc) hn).2, hp]
theorem pn (hF : FS D cy B L K P J H0 I H locs) (hq : q ∉ L) (hk : K a = co) (hc : (co != 0) = true) {v : Nat} (hp : P a k = v) : clrN P q a k = v := by
  have h1 := nn hF hq hk hc
  simp only [clrN, if_neg h1, hp]
/-- the made object is one of its kind: the tables hold -/
theorem wd (hWT : WT K P) (h : K a = co) (ht : ∀ k, tt t k ≠ 0 → K (P a k) = tt t k ∧ P a k ≠ a) (hn : ∀ b k, K b ≠ 0 → tt (K b) k ≠ 0 → P b k ≠ a) : WT (va_up K a t) P := by
  intro b k hb
  by_cases hba : b = a
  · subst hba
    rw [va_up_self] at hb ⊢
    obtain ⟨h1, h2⟩ := ht k hb
    rw [va_up_ne _ _ h2, h1]
  · rw [va_up_ne _ _ hba] at hb ⊢
    have h1 : K b ≠ 0 := fun e => by rw [e] at hb; exact hb rfl
    rw [va_up_ne _ _ (hn b k h1 hb)]
    exact hWT b k hb
theorem tb_if {c : Prop} [Decidable c] {x y : Nat} (hx : x < 20 ∨ 100 ≤ x) (hy : y < 20 ∨ 100 ≤ y) : (if c then x else y) < 20 ∨ 100 ≤ (if c then x else y) := by split <;> assumption
theorem wraw (hWT : WT K P) (h : K a = co) (hr : (decide (20 ≤ co) && decide (co < 30)) = true) : ∀ b k, K b ≠ 0 → tt (K b) k ≠ 0 → P b k ≠ a := by
  intro b k _ hb he
  have h1 := hWT b k hb
  rw [he, h] at h1
  simp only [Bool.and_eq_true, decide_eq_true_eq] at hr
  have h2 : ∀ c k, tt c k < 20 ∨ 100 ≤ tt c k := by
    intro c k
    unfold tt
    split <;> (repeat' (first | refine tb_if ?_ ?_ | omega))
  have := h2 (K b) k
  omega
theorem fl_runI (C0 : FC D cy B p s m meth c own cc nL) (hF : FS D cy B L K P J s.heap I H locs) (hsz : ls.size = nL)
    (hM : Met l y [.code y bytes maxL none] rm (va_Pc (.ref b :: As) (FW D cy B L K P J I)) Qc mc ms (fun q => B ≤ q)) (w1 : Cond.methodLink own idx y ∈ AW) (w2 : Cond.instanceMethod y ∈ AW) (w4 : Cond.initialized y.cls ∈ AW) (w5 : Cond.code y bytes maxL none ∈ AW)
    (hy1 : y.name = "<init>") (hn : As.length = n) (hd : plainM y n) (hrc : rm.cells = mc) (hrs : rm.slots = ms) (hR : rooms R rm maxL) (hst : st0 = As.reverse ++ .ref b :: rest) (hW : (rest.map fun v => v.category).sum ≤ 8) (hdg : decode cc pc = .ok (.invokespecial idx, 3)) (hf : cells + mc ≤ R.cells ∧ slots + ms ≤ R.slots) :
    va_Run p l e R s m args below meth c H locs cells slots mc ms (F0 m pc ls st0) rest (Qc (Value.ref b :: As).toArray) (fun q => B ≤ q) := by
  obtain ⟨hx, hb, hml, hown, -, hFK, hFZ⟩ := C0
  exact va_runI (Ts := AW) ⟨hx, hb, hml, hown, hFK.use⟩ hM (cwI n hFK.use (gi_1 w5 rfl) rfl hrc hrs (hFK.use _ w4) (hFK.use _ w1) (hFK.use _ w2) hy1 hd hR) ⟨FW.blind, hF.pre hFK hFZ _⟩ rfl hn hsz hst (lv_room hW) hdg hf
theorem fl_runIN (C0 : FC D cy B p s m meth c own cc nL) (hF : FS D cy B L K P J s.heap I H locs) (hsz : ls.size = nL)
    (hM : Met l y [.code y bytes maxL none] rm (va_Pc (.ref b :: As) (FW D cy B L K P J I)) Qc mc ms (fun q => B ≤ q)) (w1 : Cond.methodLinkNest own idx y host ∈ AW) (w2 : Cond.instanceMethod y ∈ AW) (w4 : Cond.initialized y.cls ∈ AW) (w5 : Cond.code y bytes maxL none ∈ AW)
    (hy1 : y.name = "<init>") (hn : As.length = n) (hd : plainM y n) (hrc : rm.cells = mc) (hrs : rm.slots = ms) (hR : rooms R rm maxL) (hst : st0 = As.reverse ++ .ref b :: rest) (hW : (rest.map fun v => v.category).sum ≤ 8) (hdg : decode cc pc = .ok (.invokespecial idx, 3)) (hf : cells + mc ≤ R.cells ∧ slots + ms ≤ R.slots) :
    va_Run p l e R s m args below meth c H locs cells slots mc ms (F0 m pc ls st0) rest (Qc (Value.ref b :: As).toArray) (fun q => B ≤ q) := by
  obtain ⟨hx, hb, hml, hown, -, hFK, hFZ⟩ := C0
  exact va_runIN (Ts := AW) ⟨hx, hb, hml, hown, hFK.use⟩ hM ⟨va_cnB n hFK.use (gi_1 w5 rfl) rfl hrc hrs (hFK.2.1 _ w1) (hFK.use _ w4) hd hR, hy1, hFK.use _ w2⟩ ⟨FW.blind, hF.pre hFK hFZ _⟩ rfl hn hsz hst (lv_room hW) hdg hf
theorem FS.afterA {t : State} {H1 : Heap} {locs1 : List Loc} (hF : FS D cy B L K P J s.heap I H locs) (ht : t.heap = H1) (hS : va_S (fun q => B ≤ q) s.heap H1 locs1) (hw : FX D cy B L1 K1 P1 J I1 t) : FS D cy B L1 K1 P1 J s.heap I1 H1 locs1 := by
  subst ht
  exact ⟨hw.1, hw.2.1, hS, hw.2.2.2.1, hF.2.2.2.2.1, hF.2.2.2.2.2.1, hw.2.2.2.2.2.2⟩
theorem fl_avc {post : PO} {ar : Array Value} (hF : FS D cy B L K P J s.heap I H locs) (hr : va_Run p l e R s m args below meth c H locs cells slots mc ms (F0 m pc ls st0) rest (AVc D cy B J K P a co post ar) (fun q => B ≤ q))
    (kk : ∀ (L1 : List Nat) (K1 : KT) (P1 : PT) (I1 : IT) (H1 : Heap) (locs1 : List Loc), FS D cy B L1 K1 P1 J s.heap I1 H1 locs1 → post L1 K1 P1 I1 → WT K1 P1 → EX K P K1 P1 a → K1 a = co → W p l e R s m args below meth c H1 locs1 (cells + mc) (slots + ms) Q (F0 m (pc + 3) ls rest)) : W p l e R s m args below meth c H locs cells slots Q (F0 m pc ls st0) :=
  va_callv hr hF.2.2.1 (fun _ _ h => h) (fun _ h => h) (fun u t H1 locs1 ht _ hp hw _ _ hS => kk u.1 u.2.1 u.2.2.1 u.2.2.2 H1 locs1 (hF.afterA ht hS hw.1) hp.1 hp.2.1 hp.2.2.1 hp.2.2.2)
theorem fl_avm {post : PO} {ar : Array Value} (hF : FS D cy B L K P J s.heap I H locs) (hr : va_Run p l e R s m args below meth c H locs cells slots mc ms (F0 m pc ls st0) rest (AVm D cy B J K post ar) (fun q => B ≤ q))
    (kk : ∀ (L1 : List Nat) (K1 : KT) (P1 : PT) (I1 : IT) (H1 : Heap) (locs1 : List Loc), FS D cy B L1 K1 P1 J s.heap I1 H1 locs1 → post L1 K1 P1 I1 → WT K1 P1 → EK K K1 → W p l e R s m args below meth c H1 locs1 (cells + mc) (slots + ms) Q (F0 m (pc + 3) ls rest)) : W p l e R s m args below meth c H locs cells slots Q (F0 m pc ls st0) :=
  va_callv hr hF.2.2.1 (fun _ _ h => h) (fun _ h => h) (fun u t H1 locs1 ht _ hp hw _ _ hS => kk u.1 u.2.1 u.2.2.1 u.2.2.2 H1 locs1 (hF.afterA ht hS hw.1) hp.1 hp.2.1 hp.2.2)
theorem fl_aim {post : Int → PO} {ar : Array Value} (hF : FS D cy B L K P J s.heap I H locs) (hr : va_Run p l e R s m args below meth c H locs cells slots mc ms (F0 m pc ls st0) rest (AIm D cy B J K post ar) (fun q => B ≤ q))
    (kk : ∀ (r : Int) (L1 : List Nat) (K1 : KT) (P1 : PT) (I1 : IT) (H1 : Heap) (locs1 : List Loc), FS D cy B L1 K1 P1 J s.heap I1 H1 locs1 → rg r → post r L1 K1 P1 I1 → WT K1 P1 → EK K K1 → W p l e R s m args below meth c H1 locs1 (cells + mc) (slots + ms) Q (F0 m (pc + 3) ls (iv r :: rest))) : W p l e R s m args below meth c H locs cells slots Q (F0 m pc ls st0) :=
  va_calli hr hF.2.2.1 (fun _ _ h => h) (fun _ h => h) (fun r0 u t H1 locs1 ht _ hp hw _ _ hS => by obtain ⟨⟨rfl, h1⟩, h2, h3, h4⟩ := hp; exact kk u.1 u.2.1 u.2.2.1 u.2.2.2.1 u.2.2.2.2 H1 locs1 (hF.afterA ht hS hw.1) h1 h2 h3 h4)
theorem fl_vretC {post : PO} (C0 : FC D cy B p s m meth c own cc nL) (hF : FS D cy B L1 K1 P1 J s.heap I1 H locs) (hr : meth.sig.returnType = none) (h1 : post L1 K1 P1 I1) (h2 : WT K1 P1) (h3 : EX K P K1 P1 a) (h4 : K1 a = co) (hdg : decode cc pc = .ok (.return_, 1)) (hmc : cells ≤ mc) (hms : slots ≤ ms) : W p l e R s m args below meth c H locs cells slots (MQ below (AVc D cy B J K P a co post) args s mc ms (fun q => B ≤ q)) (F0 m pc ls []) := by
  obtain ⟨hx, hb, -, -, hlocks, hFK, hFZ⟩ := C0
  exact W.widen hmc hms (W.vret hx hb hr (fun t ht hW => ⟨⟨(L1, K1, P1, I1), rfl, ⟨h1, h2, h3, h4⟩, hF.world hFK hFZ ht hW⟩, hF.2.2.1.F ht⟩) (fun q hq => hF.2.2.1.2.2 q hq) hdg (hlocks := hlocks))
theorem fl_vretM {post : PO} (C0 : FC D cy B p s m meth c own cc nL) (hF : FS D cy B L1 K1 P1 J s.heap I1 H locs) (hr : meth.sig.returnType = none) (h1 : post L1 K1 P1 I1) (h2 : WT K1 P1) (h3 : EK K K1) (hdg : decode cc pc = .ok (.return_, 1)) (hmc : cells ≤ mc) (hms : slots ≤ ms) : W p l e R s m args below meth c H locs cells slots (MQ below (AVm D cy B J K post) args s mc ms (fun q => B ≤ q)) (F0 m pc ls []) := by
  obtain ⟨hx, hb, -, -, hlocks, hFK, hFZ⟩ := C0
  exact W.widen hmc hms (W.vret hx hb hr (fun t ht hW => ⟨⟨(L1, K1, P1, I1), rfl, ⟨h1, h2, h3⟩, hF.world hFK hFZ ht hW⟩, hF.2.2.1.F ht⟩) (fun q hq => hF.2.2.1.2.2 q hq) hdg (hlocks := hlocks))
theorem fl_zretM {r : Int} {post : Int → PO} (C0 : FC D cy B p s m meth c own cc nL) (hF : FS D cy B L1 K1 P1 J s.heap I1 H locs) (hr : meth.sig.returnType = some .boolean) (rr : rg r) (h01 : r = 0 ∨ r = 1) (h1 : post r L1 K1 P1 I1) (h2 : WT K1 P1) (h3 : EK K K1) (hdg : decode cc pc = .ok (.ireturn, 1)) (hmc : cells ≤ mc) (hms : slots ≤ ms) : W p l e R s m args below meth c H locs cells slots (MQ below (AIm D cy B J K post) args s mc ms (fun q => B ≤ q)) (F0 m pc ls [iv r]) := by
  obtain ⟨hx, hb, -, -, hlocks, hFK, hFZ⟩ := C0
  exact W.widen hmc hms (W.zret hx hb hr (by rcases h01 with rfl | rfl <;> rfl) (fun t ht hW => ⟨⟨_, (r, L1, K1, P1, I1), rfl, ⟨⟨rfl, rr⟩, h1, h2, h3⟩, hF.world hFK hFZ ht hW⟩, hF.2.2.1.F ht⟩) (fun q hq => hF.2.2.1.2.2 q hq) hdg (hlocks := hlocks))
theorem fl_iretM {r : Int} {post : Int → PO} (C0 : FC D cy B p s m meth c own cc nL) (hF : FS D cy B L1 K1 P1 J s.heap I1 H locs) (hr : meth.sig.returnType = some .int) (rr : rg r) (h1 : post r L1 K1 P1 I1) (h2 : WT K1 P1) (h3 : EK K K1) (hdg : decode cc pc = .ok (.ireturn, 1)) (hmc : cells ≤ mc) (hms : slots ≤ ms) : W p l e R s m args below meth c H locs cells slots (MQ below (AIm D cy B J K post) args s mc ms (fun q => B ≤ q)) (F0 m pc ls [iv r]) := by
  obtain ⟨hx, hb, -, -, hlocks, hFK, hFZ⟩ := C0
  exact W.widen hmc hms (W.iret hx hb hr (fun t ht hW => ⟨⟨_, (r, L1, K1, P1, I1), rfl, ⟨⟨rfl, rr⟩, h1, h2, h3⟩, hF.world hFK hFZ ht hW⟩, hF.2.2.1.F ht⟩) (fun q hq => hF.2.2.1.2.2 q hq) hdg (hlocks := hlocks))
theorem fl_throwA {post : Nat → PO} {ik is ic : Nat} {text : String} (C0 : FC D cy B p s m meth c "RejudgeHall" cc nL) (hF : FS D cy B L1 K1 P1 J s.heap I1 H locs) (hst : l.stackTraces = false) (hx0 : ∀ x ∈ c.exceptionTable.toList, False) (hsz : ls.size = nL) (hE : Exc (exn k) ik ic) (hk : k ≠ 0) (ht : (is, text) ∈ txts) (h1 : post k L1 K1 P1 I1) (h2 : WT K1 P1) (h3 : EK K K1)
    (d0 : decode cc pc = .ok (.new ik, 3)) (d3 : decode cc (pc + 3) = .ok (.dup, 1)) (d4 : decode cc (pc + 4) = .ok (.ldc is, 2)) (d6 : decode cc (pc + 6) = .ok (.invokespecial ic, 3)) (d9 : decode cc (pc + 9) = .ok (.athrow, 1))
    (hfr : 5 < R.frames) (hlo : (rest.map fun v => v.category).sum + 82 ≤ R.locals) (hc : cells + 1 ≤ R.cells) (hs : slots + 6 ≤ R.slots) (hmc : cells + 1 ≤ mc) (hms : slots + 6 ≤ ms) :
    W p l e R s m args below meth c H locs cells slots (vx_MQ below Qc (AXm D cy B J K post) args s mc ms (fun q => B ≤ q)) (F0 m pc ls rest) := by
  obtain ⟨hx, hb, hml, hown, hlocks, hFK, hFZ⟩ := C0
  obtain ⟨w1, w2, w3, hfit, hgood⟩ := hE
  obtain ⟨sa, hsa⟩ := hFK.2.2.1 _ ht
  refine vx_throwS hx hb hst hown hfit (by decide +kernel) (hFK.use _ w1) (hFK.use _ w2) hsa (fun w hw => hFK.use _ (w3 w hw)) hgood hFZ.1.1 hFZ.1.2 hF.2.2.1 (hsz.trans hml.symm) d0 d3 d4 d6 d9 (fun x hx => absurd hx (fun h => hx0 x h)) hfr (by simpa using hlo) hc hs hlocks ?_ (fun z hz => hF.2.2.1.2.2 z hz) hmc hms
  intro t _ g3 g4
  obtain ⟨g1, g2⟩ := hF.thrown g3 g4
  exact ⟨(k, L1, K1, P1, I1), ⟨hk, h1, h2, h3⟩, ⟨rfl, g1⟩, g2⟩
theorem fl_throwAW {post : Nat → PO} {ik is ic : Nat} {text : String} (C0 : FC D cy B p s m meth c "RejudgeHall" cc nL) (hF : FS D cy B L1 K1 P1 J s.heap I1 H locs) (hst : l.stackTraces = false) (hx0 : ∀ x ∈ c.exceptionTable.toList, False) (hsz : ls.size = nL) (hE : Exc (exn k) ik ic) (hk : k ≠ 0) (ht : (is, text) ∈ txts) (h1 : post k L1 K1 P1 I1) (h2 : WT K1 P1) (h3 : EK K K1)
    (d0 : decode cc pc = .ok (.new ik, 3)) (d3 : decode cc (pc + 3) = .ok (.dup, 1)) (d4 : decode cc (pc + 4) = .ok (.ldc_w is, 3)) (d7 : decode cc (pc + 7) = .ok (.invokespecial ic, 3)) (d10 : decode cc (pc + 10) = .ok (.athrow, 1))
    (hfr : 5 < R.frames) (hlo : (rest.map fun v => v.category).sum + 82 ≤ R.locals) (hc : cells + 1 ≤ R.cells) (hs : slots + 6 ≤ R.slots) (hmc : cells + 1 ≤ mc) (hms : slots + 6 ≤ ms) :
    W p l e R s m args below meth c H locs cells slots (vx_MQ below Qc (AXm D cy B J K post) args s mc ms (fun q => B ≤ q)) (F0 m pc ls rest) := by
  obtain ⟨hx, hb, hml, hown, hlocks, hFK, hFZ⟩ := C0
  obtain ⟨w1, w2, w3, hfit, hgood⟩ := hE
  obtain ⟨sa, hsa⟩ := hFK.2.2.1 _ ht
  refine vx_throwSW hx hb hst hown hfit (by decide +kernel) (hFK.use _ w1) (hFK.use _ w2) hsa (fun w hw => hFK.use _ (w3 w hw)) hgood hFZ.1.1 hFZ.1.2 hF.2.2.1 (hsz.trans hml.symm) d0 d3 d4 d7 d10 (fun x hx => absurd hx (fun h => hx0 x h)) hfr (by simpa using hlo) hc hs hlocks ?_ (fun z hz => hF.2.2.1.2.2 z hz) hmc hms
  intro t _ g3 g4
  obtain ⟨g1, g2⟩ := hF.thrown g3 g4
  exact ⟨(k, L1, K1, P1, I1), ⟨hk, h1, h2, h3⟩, ⟨rfl, g1⟩, g2⟩
theorem fl_propA {post : Nat → PO} {q : Addr} {ce : Cell} (C0 : FC D cy B p s m meth c own cc nL) (hF : FS D cy B L1 K1 P1 J s.heap I1 H locs) (hx0 : ∀ x ∈ c.exceptionTable.toList, False) (hk : k ≠ 0) (e1 : H[q]? = some ce) (e2 : ce.vm = .none) (e3 : s.vm.findClass (exn k) = some ce.cls) (h1 : post k L1 K1 P1 I1) (h2 : WT K1 P1) (h3 : EK K K1) (hmc : cells ≤ mc) (hms : slots ≤ ms) :
    vx_W p l e R s m args below meth c H locs cells slots (vx_MQ below Qc (AXm D cy B J K post) args s mc ms (fun q => B ≤ q)) (F0 m pc ls rest) q := by
  refine vx_out (fun x hx => absurd hx (fun h => hx0 x h)) C0.2.2.2.2.1 e1 e2 e3 ?_ (fun z hz => hF.2.2.1.2.2 z hz) hmc hms
  intro t ht _
  obtain ⟨g1, g2⟩ := hF.thrown (t := t) (by rw [ht]; exact Nat.le_refl _) (fun q _ => by rw [ht])
  exact ⟨(k, L1, K1, P1, I1), ⟨hk, h1, h2, h3⟩, ⟨rfl, g1⟩, g2⟩
end FB
/-- a constructor's walk -/
theorem fl_bodyI {l : Launch} {D : va_G} {cy : Nat → ClassId} {B : Nat} {L : List Nat} {K : KT} {P : PT} {J I : IT} {y : MethodName} {cc : ByteArray} {maxL : Nat} {rm : Room} {Qc : Array Value → State → Outcome → State → Prop} {mc ms : Nat} {own : String} (av : List Value) (hy : plainName y.cls = true) (ho : y.cls = own) (hi : y.name = "<init>") (hn : (lg_sl av).length ≤ maxL)
    (body : ∀ (p : Program) (e : Env) (s : State) (m : MethodId) (args : Array Value) (below : List Frame) (meth : Method) (c : Code) (ls : Array Slot), FC D cy B p s m meth c own cc maxL → meth.sig.returnType = none → meth.name = "<init>" → FS D cy B L K P J s.heap I s.heap [] → lv_has ls maxL (lv_args 0 av) →
      W p l e rm s m args below meth c s.heap [] 0 0 (MQ below Qc args s mc ms (fun q => B ≤ q)) (F0 m 0 ls [])) : Met l y [.code y cc maxL none] rm (va_Pc av (FW D cy B L K P J I)) Qc mc ms (fun q => B ≤ q) := by
  refine Met.ofW (cc := cc) (maxL := maxL) (ret := none) hy rfl ?_
  intro p e s m args below meth c s₁ B0 hml hv
  obtain ⟨rfl, hF, hFK, hFZ⟩ := hv
  subst ho
  have hl := lv_entry av (n := maxL) hn
  rw [lg_entry_eq]
  generalize (lg_sl av ++ List.replicate (maxL - (lg_sl av).length) Slot.unset).toArray = ls at hl ⊢
  exact body p e s m _ below meth c ls (FC.ofB B0 hml hFK hFZ) B0.returns ((name_of_methodNamed B0.named B0.method).1.trans hi) hF hl
end
section
section FL2
variable {p : Program} {l : Launch} {e : Env} {R : Room} {s : State} {m : MethodId} {args : Array Value} {below : List Frame} {meth : Method} {c : Code} {H : Heap} {locs : List Loc} {cells slots : Nat} {Q : State → Prop}
variable {D : va_G} {cy : Nat → ClassId} {B : Nat} {L : List Nat} {K : KT} {P : PT} {J I : IT} {own : String} {cc : ByteArray} {nL pc : Nat} {ls : Array Slot} {rest : List Value} {H0 : Heap}
variable {ci k a co idx n : Nat} {C nm ds : String} {T : u_T} {ty : Nat → FieldType} {i : Int}
theorem fl_getr1 (hC : Cls ci C T ty) (C0 : FC D cy B p s m meth c own cc nL) (hF : FS D cy B L K P J H0 I H locs) (h : K a = co) (ho : gok co ci k true = true) (hz : P a k = 1) (hT : (T k).2.1 = nm ∧ (T k).2.2.1 = ds) (hw : Cond.fieldLink own idx (T k).1 nm ds ∈ AW) (hdg : decode cc pc = .ok (.getfield idx, 3))
    (kk : W p l e R s m args below meth c H locs cells slots Q (F0 m (pc + 3) ls (.ref (cy 7) :: rest))) : W p l e R s m args below meth c H locs cells slots Q (F0 m pc ls (.ref a :: rest)) := by
  obtain ⟨h1, h2, h3, h4, h5⟩ := gok_of ho
  subst h
  exact fl_get hC C0 hF h1 h2 h3 h4 (by simp only [fval, h5, if_true, hz, rfo_1]) hT hw hdg kk
theorem fl_putr1 (hC : Cls ci C T ty) (C0 : FC D cy B p s m meth c own cc nL) (hF : FS D cy B L K P J H0 I H locs) (h : K a = co) (ho : gok co ci k true = true) (hT : (T k).2.2.2 = false ∧ (T k).2.1 = nm ∧ (T k).2.2.1 = ds) (hfit : ∀ v, narrow (ty k) (.ref v) = .ref v ∧ fits (ty k) (.ref v) = true) (hw : Cond.fieldLink own idx (T k).1 nm ds ∈ AW) (hdg : decode cc pc = .ok (.putfield idx, 3))
    (kk : ∀ (H1 : Heap) (locs1 : List Loc), FS D cy B L K (up P a k 1) J H0 I H1 locs1 → W p l e R s m args below meth c H1 locs1 cells slots Q (F0 m (pc + 3) ls rest)) : W p l e R s m args below meth c H locs cells slots Q (F0 m pc ls (.ref (cy 7) :: .ref a :: rest)) := by
  obtain ⟨h1, h2, h3, h4, h5⟩ := gok_of ho
  subst h
  obtain ⟨hx, hb, -, hown, -, hFK, -⟩ := C0
  obtain ⟨k0, hk0⟩ := hF.get h1
  have hk1 := hk0
  rw [fcell_obj h2 h3] at hk0
  obtain ⟨hfin, rfl, rfl⟩ := hT
  refine va_put hx hb hFK.use hC.2.1 ty hC.2.2.1 hC.2.2.2 hown hFK.1 hF.1 hF.2.1 hF.2.2.1 k0 hk0 hC.1 k h4 (hFK.use _ hw) (fun _ h => h) hfin (hC.2.2.1 k h4) (hfit _).1 (hfit _).2 (by rw [fobj_len]; exact h4) hdg ?_
  intro H1 locs1 g1 g2 g3
  have hset : (fobj cy P I ci a).set k (.ref (cy 7)) = fobj cy (up P a k 1) I ci a := fobj_set h4 (by simp only [fval, h5, if_true, up_s, rfo_1]) (fun j hj => by simp [fval, up_k P a a 1 hj])
  have he := fl_set (g := fcell cy K (up P a k 1) J I) hF.2.1 (hF.2.2.2.1 a h1) hk1 (fcell_obj h2 h3) (fun b hb => fcell_upP hb)
  rw [hset, he] at g1 g2
  exact kk H1 locs1 ⟨g1, g2, g3, hF.2.2.2⟩
theorem fl_aast {v cv civ : Nat} {Cv : String} {Tv : u_T} {tyv : Nat → FieldType} (hCv : Cls civ Cv Tv tyv) (C0 : FC D cy B p s m meth c own cc nL) (hF : FS D cy B L K P J H0 I H locs) (hka : K a = 102 + 4 * n) (hri : rg i) (hi : 0 ≤ i ∧ i < n) (hv : K v = cv) (hov : cok cv civ = true) (hca : Cond.castable Cv "java/lang/Object" ∈ AW) (hdg : decode cc pc = .ok (.aastore, 1))
    (kk : ∀ (H1 : Heap) (locs1 : List Loc), FS D cy B L K (up P a i.toNat v) J H0 I H1 locs1 → W p l e R s m args below meth c H1 locs1 cells slots Q (F0 m (pc + 1) ls rest)) : W p l e R s m args below meth c H locs cells slots Q (F0 m pc ls (.ref v :: iv i :: .ref a :: rest)) := by
  obtain ⟨v1, v2, v3⟩ := cok_of hov
  subst hv
  obtain ⟨hx, hb, -, hown, -, hFK, -⟩ := C0
  obtain ⟨k0, hk0⟩ := hF.get (a := a) (by omega)
  obtain ⟨kv, hkv⟩ := hF.get v1
  rw [fcell_obj v2 v3] at hkv
  have hk1 := hk0
  have hcell : ∀ P' : PT, fcell cy K P' J I a = .inl (cy 2, (n, .inr (.inr (.inr (.inr (fun j => rfo cy (P' a j))))))) := fun P' => by rw [fcell_arr (kd := 2) (n := n) (by omega) (by decide), farr_ref]
  rw [hcell] at hk0
  refine va_astqO hx hb hFK.1 hF.1 hF.2.1 hF.2.2.1 k0 2 kv civ hk0 rfl (hFK.2.1 _ hca) hkv hCv.1 (of_in hri hi) hdg ?_
  intro H1 locs1 h1 h2 h3
  have he := fl_set (g := fcell cy K (up P a i.toNat v) J I) hF.2.1 (hF.2.2.2.1 a (by omega)) hk1 (hcell _) (fun b hb => fcell_upP hb)
  have hf : (va_up (fun j => rfo cy (P a j)) (Int32.ofInt i).toNatClampNeg (some v)) = fun j => rfo cy (up P a i.toNat v a j) := by
    funext j
    rw [of_clamp hri]
    have hv1 := hF.ne0 v1
    by_cases hj : j = i.toNat
    · subst hj
      rw [va_up_self, up_s]
      have q1 : v ≠ 0 := by omega
      have q2 : v ≠ 1 := by omega
      simp [rfo, q1, q2]
    · rw [va_up_ne _ _ hj, up_k P a a v hj]
  rw [hf, he] at h1 h2
  exact kk H1 locs1 ⟨h1, h2, h3, hF.2.2.2⟩
theorem fl_acopyq {a0 n0 n1 t civ : Nat} {Cv : String} {Tv : u_T} {tyv : Nat → FieldType} {N : Int} (hCv : Cls civ Cv Tv tyv) (C0 : FC D cy B p s m meth c own cc nL) (hF : FS D cy B L K P J s.heap I H locs) (hsz : ls.size = nL) (h0 : K a0 = 102 + 4 * n0) (h1 : K a = 102 + 4 * n1) (rN : rg N) (hN : 0 ≤ N ∧ N ≤ n0 ∧ N ≤ n1) (hel : ∀ j, j < n0 → P a0 j = 0 ∨ K (P a0 j) = t) (hot : cok t civ = true) (hca : Cond.castable Cv "java/lang/Object" ∈ AW)
    (w1 : Cond.methodLink own idx arraycopyName ∈ AW) (w2 : Cond.native arraycopyName ∈ AW) (w3 : Cond.static arraycopyName ∈ AW) (w4 : Cond.initialized "java/lang/System" ∈ AW) (hframes : 1 ≤ R.frames) (hlocals : (rest.map fun v => v.category).sum + (nativeFrameWords "java/lang/System" "arraycopy" 5 + 11) ≤ R.locals) (hdg : decode cc pc = .ok (.invokestatic idx, 3))
    (kk : ∀ (H1 : Heap) (locs1 : List Loc), FS D cy B L K (cpyP P a0 a 0 0 N.toNat) J s.heap I H1 locs1 → W p l e R s m args below meth c H1 locs1 cells slots Q (F0 m (pc + 3) ls rest)) : W p l e R s m args below meth c H locs cells slots Q (F0 m pc ls (iv N :: iv 0 :: .ref a :: iv 0 :: .ref a0 :: rest)) := by
  have C1 := C0
  obtain ⟨hx, hb, hml, hown, -, hFK, hFZ⟩ := C0
  obtain ⟨v1, v2, v3⟩ := cok_of hot
  obtain ⟨k0, hk0⟩ := hF.get (a := a0) (by omega)
  obtain ⟨k1, hk1⟩ := hF.get (a := a) (by omega)
  have hk2 := hk1
  have hcell : ∀ (P' : PT) (b n : Nat), K b = 102 + 4 * n → fcell cy K P' J I b = .inl (cy 2, (n, .inr (.inr (.inr (.inr (fun j => rfo cy (P' b j))))))) := fun P' b n h => by rw [fcell_arr (kd := 2) (n := n) (by omega) (by decide), farr_ref]
  rw [hcell P a0 n0 h0] at hk0
  rw [hcell P a n1 h1] at hk1
  have r0 : rg 0 := ⟨by decide, by decide⟩
  have nn : ∀ {z : Int}, rg z → 0 ≤ z → ¬ Int32.ofInt z < 0 := fun {z} hz h => by
    have h9 : Int32.ofInt z < Int32.ofInt 0 ↔ z < 0 := of_lt hz ⟨by decide, by decide⟩
    intro q
    have := h9.mp q
    omega
  have e0 : (Int32.ofInt 0).toNatClampNeg = 0 := of_clamp r0
  refine va_copyq (C := Cv) hx hb (hml.trans hsz.symm) hown (hFK.use _ w1) (hFK.use _ w2) (hFK.use _ w3) (hFK.use _ w4) hFK.1 hF.1 hF.2.1 hF.2.2.1 k0 k1 2 2 hk0 hk1 rfl rfl (nn r0 (by decide)) (nn r0 (by decide)) (nn rN hN.1) (by rw [e0, of_clamp rN]; omega) (by rw [e0, of_clamp rN]; omega) ?_ (fun comp c0 g1 g2 => vb_asgC (hFK.2.1 _ hca) comp c0 g1 g2) hframes hlocals hdg ?_
  · intro j hj y hy
    rw [e0, Nat.zero_add] at hy
    rw [of_clamp rN] at hj
    rcases hel j (by omega) with h | h
    · rw [h] at hy
      cases hy
    · have hne := hF.ne0 (a := P a0 j) (by rw [h]; exact v1)
      have q1 : P a0 j ≠ 0 := by omega
      have q2 : P a0 j ≠ 1 := by omega
      simp only [rfo, q1, q2, if_false] at hy
      cases hy
      exact hF.recv hCv hFK (by rw [h]; exact v1) (by rw [h]; exact v2) (by rw [h]; exact v3)
  · intro H1 locs1 g1 g2 g3
    have hcp : ∀ b, b ≠ a → fcell cy K (cpyP P a0 a 0 0 N.toNat) J I b = fcell cy K P J I b := by
      intro b hb3
      have q1 : ∀ j, cpyP P a0 a 0 0 N.toNat b j = P b j := fun j => by simp [cpyP, hb3]
      have q2 : fobj cy (cpyP P a0 a 0 0 N.toNat) I (kci (K b)) b = fobj cy P I (kci (K b)) b := by
        unfold fobj
        apply List.map_congr_left
        intro j _
        simp only [fval, q1]
      have q3 : farr cy (cpyP P a0 a 0 0 N.toNat) J I (K b % 4) b = farr cy P J I (K b % 4) b := by
        unfold farr
        simp only [q1]
      simp only [fcell, q2, q3]
    have he := fl_set (g := fcell cy K (cpyP P a0 a 0 0 N.toNat) J I) hF.2.1 (hF.2.2.2.1 a (by omega)) hk2 (hcell _ a n1 h1) hcp
    have hf : va_cpy (fun j => rfo cy (P a0 j)) (fun j => rfo cy (P a j)) (Int32.ofInt 0).toNatClampNeg (Int32.ofInt 0).toNatClampNeg (Int32.ofInt N).toNatClampNeg = fun j => rfo cy (cpyP P a0 a 0 0 N.toNat a j) := by
      funext j
      rw [e0, of_clamp rN]
      unfold va_cpy cpyP
      by_cases hj : 0 ≤ j ∧ j < 0 + N.toNat
      · rw [if_pos hj, if_pos ⟨rfl, hj⟩]
      · rw [if_neg hj, if_neg (fun q => hj q.2)]
    rw [hf, he] at g1 g2
    exact kk H1 locs1 ⟨g1, g2, g3, hF.2.2.2⟩
end FL2
section LS2
variable (l : Launch) (D : va_G) (cy : Nat → ClassId) (B : Nat) (L : List Nat) (K : KT) (P : PT) (J : IT) (I : IT)
abbrev two0 (R rm : Room) (maxL : Nat) : Prop := rooms R rm maxL
theorem c_acinit (a co : Nat) : Met l yJxa1e45_init_da8c8 [.code yJxa1e45_init_da8c8 cJxa1e45_init_da8c8 1 none] { frames := 1, cells := 0, slots := 0, locals := 20 } (va_Pc [.ref a] (FW D cy B L K P J I)) (QV D cy B L K P J I) 0 0 (fun q => B ≤ q) := by
  refine fl_body (own := "java/util/AbstractCollection") [.ref a] (by decide) rfl (Nat.le_of_ble_eq_true rfl) ?_
  intro p e s m args below meth c ls C0 hr hF hl
  have hl : lv_has ls 1 [(0, .ref a)] := hl
  refine lv_aload_n C0.1 C0.2.1 dJxa1e45_init_da8c8_0 rfl (lv_at hl 0 rfl) ?_
  refine fl_objInit (nm0 := yJxa1e45_init_da8c8) C0 hl.1 aw_170 aw_95 aw_96 dJxa1e45_init_da8c8_1 (Nat.le_of_ble_eq_true rfl) (Nat.le_of_ble_eq_true rfl) ?_
  exact fl_vret C0 hF hr rfl dJxa1e45_init_da8c8_4
theorem pm_acinit : plainM yJxa1e45_init_da8c8 0 := by decide +kernel
theorem c_alinit (a : Nat) (ka : K a = 20) : Met l yJxc12de_init_da8c8 [.code yJxc12de_init_da8c8 cJxc12de_init_da8c8 1 none] { frames := 2, cells := 0, slots := 0, locals := 40 } (va_Pc [.ref a] (FW D cy B L K P J I)) (QV D cy B L K P J (up I a 0 0)) 0 0 (fun q => B ≤ q) := by
  refine fl_body (own := "java/util/AbstractList") [.ref a] (by decide) rfl (Nat.le_of_ble_eq_true rfl) ?_
  intro p e s m args below meth c ls C0 hr hF hl
  have hl : lv_has ls 1 [(0, .ref a)] := hl
  refine lv_aload_n C0.1 C0.2.1 dJxc12de_init_da8c8_0 rfl (lv_at hl 0 rfl) ?_
  refine fl_rv hF (fl_runI (As := []) (rest := []) C0 hF hl.1 (c_acinit l D cy B L K P J I a 20) aw_167 aw_168 aw_69 aw_169 rfl rfl pm_acinit rfl rfl ⟨Nat.le_of_ble_eq_true rfl, Nat.le_of_ble_eq_true rfl⟩ rfl (Nat.le_of_ble_eq_true rfl) dJxc12de_init_da8c8_1 ⟨Nat.le_of_ble_eq_true rfl, Nat.le_of_ble_eq_true rfl⟩) (fun H locs hF => ?_)
  refine lv_aload_n C0.1 C0.2.1 dJxc12de_init_da8c8_4 rfl (lv_at hl 0 rfl) ?_
  refine fl_iconst C0 dJxc12de_init_da8c8_5 ?_
  refine fl_puti (k := 0) ck_0 C0 hF ka rfl (rgk 0 rfl) ⟨rfl, rfl, rfl⟩ aw_175 dJxc12de_init_da8c8_6 (fun H locs hF => ?_)
  exact fl_vret C0 hF hr rfl dJxc12de_init_da8c8_9
theorem pm_alinit : plainM yJxc12de_init_da8c8 0 := by decide +kernel
abbrev rm_linit : Room := { frames := 3, cells := 0, slots := 0, locals := 60 }
theorem c_linit (hWT : WT K P) (a t : Nat) (ka : K a = 20) (ht : cok t 0 = true) (htt : ∀ k, tt t k = 0) (post : PO) (hf : post L (va_up K a t) (up P a 1 1) (up I a 0 0)) : Met l yJx4a65c_init_da8c8 [.code yJx4a65c_init_da8c8 cJx4a65c_init_da8c8 1 none] rm_linit (va_Pc [.ref a] (FW D cy B L K P J I)) (AVc D cy B J K P a t post) 0 0 (fun q => B ≤ q) := by
  refine fl_body (own := "java/util/ArrayList") [.ref a] (by decide) rfl (Nat.le_of_ble_eq_true rfl) ?_
  intro p e s m args below meth c ls C0 hr hF hl
  have hl : lv_has ls 1 [(0, .ref a)] := hl
  refine lv_aload_n C0.1 C0.2.1 dJx4a65c_init_da8c8_0 rfl (lv_at hl 0 rfl) ?_
  refine fl_rv hF (fl_runI (As := []) (rest := []) C0 hF hl.1 (c_alinit l D cy B L K P J I a ka) aw_164 aw_165 aw_70 aw_166 rfl rfl pm_alinit rfl rfl ⟨Nat.le_of_ble_eq_true rfl, Nat.le_of_ble_eq_true rfl⟩ rfl (Nat.le_of_ble_eq_true rfl) dJx4a65c_init_da8c8_1 ⟨Nat.le_of_ble_eq_true rfl, Nat.le_of_ble_eq_true rfl⟩) (fun H locs hF => ?_)
  refine lv_aload_n C0.1 C0.2.1 dJx4a65c_init_da8c8_4 rfl (lv_at hl 0 rfl) ?_
  refine va_gets C0.1 C0.2.1 C0.2.2.2.2.2.2.2.1 hF.2.2.1 C0.2.2.2.1 (C0.2.2.2.2.2.1.use _ aw_171) (fun _ h => h) dJx4a65c_init_da8c8_5 ?_
  refine fl_putr1 (k := 1) ck_0 C0 hF ka rfl ⟨rfl, rfl, rfl⟩ (fun _ => ⟨rfl, rfl⟩) aw_173 dJx4a65c_init_da8c8_8 (fun H locs hF => ?_)
  exact fl_vretC C0 (hF.done (co2 := t) ka rfl ht) hr hf (wd (wu hWT ka (fun _ => rfl)) ka (fun k hk => absurd (htt k) hk) (wraw (wu hWT ka (fun _ => rfl)) ka rfl)) (ked (eu EX.rf) ka) (va_up_self _ _ _) dJx4a65c_init_da8c8_11 (Nat.le_refl _) (Nat.le_refl _)
theorem pm_linit : plainM yJx4a65c_init_da8c8 0 := by decide +kernel
end LS2
end
section
section LADD
variable (l : Launch) (D : va_G) (cy : Nat → ClassId) (B : Nat) (L : List Nat) (K : KT) (P : PT) (J : IT) (I : IT)
/-- newLength, where it stays in range -/
theorem c_newlen (o g h : Int) (ro : rg o) (rgg : rg g) (rh : rg h) (h1 : 0 < wr (o + imax g h)) (h2 : wr (o + imax g h) ≤ 2147483639) : Met l yJ8_newLength_cabcc [.code yJ8_newLength_cabcc cJ8_newLength_cabcc 4 (some .int)] { frames := 1, cells := 0, slots := 0, locals := 21 } (va_Pc [iv o, iv g, iv h] (FW D cy B L K P J I)) (QI D cy B L K P J (wr (o + imax g h), I)) 0 0 (fun q => B ≤ q) := by
  refine fl_body (own := "jdk/internal/util/ArraysSupport") [iv o, iv g, iv h] (by decide) rfl (Nat.le_of_ble_eq_true rfl) ?_
  intro p e s m args below meth c ls C0 hr hF hl
  have hl : lv_has ls 4 [(0, iv o), (1, iv g), (2, iv h)] := hl
  refine lv_iload_n C0.1 C0.2.1 dJ8_newLength_cabcc_0 rfl (lv_at hl 0 rfl) ?_
  refine lv_iload_n C0.1 C0.2.1 dJ8_newLength_cabcc_1 rfl (lv_at hl 1 rfl) ?_
  refine lv_iload_n C0.1 C0.2.1 dJ8_newLength_cabcc_2 rfl (lv_at hl 2 rfl) ?_
  refine fl_max C0 hl.1 rgg rh aw_592 (Nat.le_of_ble_eq_true rfl) (Nat.le_of_ble_eq_true rfl) (Nat.le_of_ble_eq_true rfl) (Nat.le_of_ble_eq_true rfl) dJ8_newLength_cabcc_3 ?_
  refine fl_iadd C0 dJ8_newLength_cabcc_6 ?_
  refine lv_istore_n (lv' := [(3, iv (wr (o + imax g h))), (0, iv o), (1, iv g), (2, iv h)]) C0.1 C0.2.1 dJ8_newLength_cabcc_7 rfl hl (by decide) rfl (fun ls hl => ?_)
  refine fl_iconst C0 dJ8_newLength_cabcc_8 ?_
  refine lv_iload_n C0.1 C0.2.1 dJ8_newLength_cabcc_9 rfl (lv_at hl 0 rfl) ?_
  refine fl_icmp_ge (tgt := 21) C0 (rgk 0 rfl) (rg_wr _) dJ8_newLength_cabcc_10 (by decide) (fun c1 => absurd c1 (by omega)) (fun c1 => ?_)
  refine lv_iload_n C0.1 C0.2.1 dJ8_newLength_cabcc_13 rfl (lv_at hl 0 rfl) ?_
  refine fl_ldc (n := 2147483639) C0 aw_593 rfl dJ8_newLength_cabcc_14 ?_
  refine fl_icmp_gt (tgt := 21) C0 (rg_wr _) (rgk _ rfl) dJ8_newLength_cabcc_16 (by decide) (fun c1 => absurd c1 (by omega)) (fun c1 => ?_)
  refine lv_iload_n C0.1 C0.2.1 dJ8_newLength_cabcc_19 rfl (lv_at hl 0 rfl) ?_
  exact fl_iret C0 hF hr (rg_wr _) rfl dJ8_newLength_cabcc_20
theorem pm_newlen : plainM yJ8_newLength_cabcc 3 := by decide +kernel
/-- an answer that is a new row: its address q -/
abbrev QN (D : va_G) (cy : Nat → ClassId) (B : Nat) (L : List Nat) (J : IT) (g : Nat → KT × PT × IT) : Array Value → State → Outcome → State → Prop := va_Qr (fun (q : Nat) => q ∉ L ∧ 1 < q) (fun q a t => a = q ∧ FW D cy B (L ++ [q]) (g q).1 (g q).2.1 J (g q).2.2 t) (fun q => B ≤ q)
end LADD
section LRN
variable {p : Program} {l : Launch} {e : Env} {R : Room} {s : State} {m : MethodId} {args : Array Value} {below : List Frame} {meth : Method} {c : Code} {H : Heap} {locs : List Loc} {cells slots mc ms : Nat} {Q : State → Prop}
variable {D : va_G} {cy : Nat → ClassId} {B : Nat} {L : List Nat} {K : KT} {P : PT} {J I : IT} {own : String} {cc : ByteArray} {nL pc : Nat} {ls : Array Slot} {rest st0 : List Value}
theorem fl_rn {g : Nat → KT × PT × IT} {a : Array Value} (hF : FS D cy B L K P J s.heap I H locs) (hr : va_Run p l e R s m args below meth c H locs cells slots mc ms (F0 m pc ls st0) rest (QN D cy B L J g a) (fun q => B ≤ q))
    (kk : ∀ (q : Nat) (H1 : Heap) (locs1 : List Loc), q ∉ L → 1 < q → FS D cy B (L ++ [q]) (g q).1 (g q).2.1 J s.heap (g q).2.2 H1 locs1 → W p l e R s m args below meth c H1 locs1 (cells + mc) (slots + ms) Q (F0 m (pc + 3) ls (.ref q :: rest))) : W p l e R s m args below meth c H locs cells slots Q (F0 m pc ls st0) :=
  va_callr hr hF.2.2.1 (fun _ _ h => h) (fun _ h => h) (fun u ra t H1 locs1 ht _ hp hw _ _ hS => by obtain ⟨rfl, hw⟩ := hw; exact kk ra H1 locs1 hp.1 hp.2 (hF.afterA ht hS hw.1))
theorem fl_nret {g : Nat → KT × PT × IT} {q : Nat} {ty : FieldType} (C0 : FC D cy B p s m meth c own cc nL) (hF : FS D cy B (L ++ [q]) (g q).1 (g q).2.1 J s.heap (g q).2.2 H locs) (hr : meth.sig.returnType = some (.array ty)) (hq : q ∉ L) (h1 : 1 < q) (hdg : decode cc pc = .ok (.areturn, 1)) (hmc : cells ≤ mc) (hms : slots ≤ ms) : W p l e R s m args below meth c H locs cells slots (MQ below (QN D cy B L J g) args s mc ms (fun q => B ≤ q)) (F0 m pc ls [.ref q]) := by
  obtain ⟨hx, hb, -, -, hlocks, hFK, hFZ⟩ := C0
  exact W.widen hmc hms (W.aret hx hb hr (Or.inr ⟨_, rfl⟩) (Or.inr ⟨_, rfl⟩) (fun t ht hW => ⟨⟨q, q, rfl, ⟨hq, h1⟩, rfl, hF.world hFK hFZ ht hW⟩, hF.2.2.1.F ht⟩) (fun q hq => hF.2.2.1.2.2 q hq) hdg (hlocks := hlocks))
end LRN
section LADD2
variable (l : Launch) (D : va_G) (cy : Nat → ClassId) (B : Nat) (L : List Nat) (K : KT) (P : PT) (J : IT) (I : IT)
/-- a class's objects may lie in a list: the code's class, castable -/
def Elt (t civ : Nat) (Cv : String) (Tv : u_T) (tyv : Nat → FieldType) : Prop := Cls civ Cv Tv tyv ∧ cok t civ = true ∧ Cond.castable Cv "java/lang/Object" ∈ AW
theorem c_copy3 (arr n0 t civ mi : Nat) (Cv : String) (Tv : u_T) (tyv : Nat → FieldType) (hE : Elt t civ Cv Tv tyv) (N : Int) (rN : rg N) (k0 : K arr = 102 + 4 * n0) (hN : (n0 : Int) ≤ N ∧ N ≤ 2000) (hel : ∀ j, j < n0 → P arr j = 0 ∨ K (P arr j) = t) :
    Met l yJ7_copyOf_6403c [.code yJ7_copyOf_6403c cJ7_copyOf_6403c 4 (some (.array (.object "java/lang/Object")))] { frames := 1, cells := 1, slots := 2000, locals := 30 } (va_Pc [.ref arr, iv N, .ref mi] (fun U => FW D cy B L K P J I U ∧ va_Mi "[Ljava/lang/Object;" mi U)) (QN D cy B L J (fun q => (va_up K q (102 + 4 * N.toNat), cpyP (clrN P q) arr q 0 0 n0, clr I q))) 1 2000 (fun q => B ≤ q) := by
  refine Met.ofW (cc := cJ7_copyOf_6403c) (maxL := 4) (ret := some (.array (.object "java/lang/Object"))) (by decide) rfl ?_
  intro p e s m args below meth c s₁ B0 hml hv
  obtain ⟨rfl, ⟨hF, hFK, hFZ⟩, hMi⟩ := hv
  have hF00 := hF
  have hl := lv_entry [.ref arr, iv N, .ref mi] (n := 4) (Nat.le_of_ble_eq_true rfl)
  rw [lg_entry_eq]
  generalize (lg_sl [.ref arr, iv N, .ref mi] ++ List.replicate (4 - (lg_sl [.ref arr, iv N, .ref mi]).length) Slot.unset).toArray = ls at hl ⊢
  have C0 : FC D cy B p s m meth c "java/util/Arrays" cJ7_copyOf_6403c 4 := FC.ofB B0 hml hFK hFZ
  have hr := B0.returns
  have hl : lv_has ls 4 [(0, .ref arr), (1, iv N), (2, .ref mi)] := hl
  refine lv_aload_n C0.1 C0.2.1 dJ7_copyOf_6403c_0 rfl (lv_at hl 2 rfl) ?_
  refine va_ldcM C0.1 C0.2.1 C0.2.2.2.1 (hFK.use _ aw_620) hMi dJ7_copyOf_6403c_1 ?_
  refine lv_acmp_ne (rx := some mi) (ry := some mi) (tgt := 13) C0.1 C0.2.1 dJ7_copyOf_6403c_3 (by decide) (fun h => absurd rfl h) (fun _ => ?_)
  refine lv_iload_n C0.1 C0.2.1 dJ7_copyOf_6403c_6 rfl (lv_at hl 1 rfl) ?_
  refine fl_newr C0 hF rN (by omega) (by omega) aw_622 (Nat.le_of_ble_eq_true rfl) (by show 0 + N.toNat ≤ 2000; omega) dJ7_copyOf_6403c_7 (fun q H hq hF => ?_)
  have h1q : 1 < q := hF.ne0 (by rw [va_up_self]; omega)
  have hne : arr ≠ q := nn hF00 hq k0 (by simp only [bne_iff_ne]; omega)
  refine fl_goto (tgt := 24) C0 dJ7_copyOf_6403c_10 (by decide) ?_
  refine lv_astore_n (lv' := [(3, .ref q), (0, .ref arr), (1, iv N), (2, .ref mi)]) C0.1 C0.2.1 dJ7_copyOf_6403c_24 rfl hl (by decide) rfl (fun ls hl => ?_)
  refine lv_aload_n C0.1 C0.2.1 dJ7_copyOf_6403c_25 rfl (lv_at hl 1 rfl) ?_
  refine fl_iconst C0 dJ7_copyOf_6403c_26 ?_
  refine lv_aload_n C0.1 C0.2.1 dJ7_copyOf_6403c_27 rfl (lv_at hl 0 rfl) ?_
  refine fl_iconst C0 dJ7_copyOf_6403c_28 ?_
  refine lv_aload_n C0.1 C0.2.1 dJ7_copyOf_6403c_29 rfl (lv_at hl 1 rfl) ?_
  have k0' : va_up K q (102 + 4 * N.toNat) arr = 102 + 4 * n0 := by rw [va_up_ne _ _ hne, k0]
  refine fl_alen (n := n0) (kd := 2) C0 hF (by rw [k0']; omega) (by decide) dJ7_copyOf_6403c_30 ?_
  refine lv_iload_n C0.1 C0.2.1 dJ7_copyOf_6403c_31 rfl (lv_at hl 2 rfl) ?_
  have rn0 : rg (n0 : Int) := ⟨by omega, by omega⟩
  refine fl_min C0 hl.1 rn0 rN aw_623 (Nat.le_of_ble_eq_true rfl) (Nat.le_of_ble_eq_true rfl) (Nat.le_of_ble_eq_true rfl) (by show 0 + N.toNat ≤ 2000; omega) dJ7_copyOf_6403c_32 ?_
  have hmin : imin (n0 : Int) N = n0 := by unfold imin; rw [if_neg (by omega)]
  rw [hmin]
  refine fl_acopyq (N := (n0 : Int)) (n0 := n0) (n1 := N.toNat) (t := t) hE.1 C0 hF hl.1 k0' (va_up_self _ _ _) rn0 ⟨by omega, by omega, by omega⟩ ?_ hE.2.1 hE.2.2 aw_624 aw_572 aw_571 aw_81 (Nat.le_of_ble_eq_true rfl) (Nat.le_of_ble_eq_true rfl) dJ7_copyOf_6403c_35 (fun H locs hF => ?_)
  · intro j hj
    have e1 : clrN P q arr j = P arr j := by simp [clrN, hne]
    rw [e1]
    rcases hel j hj with h | h
    · exact Or.inl h
    · refine Or.inr ?_
      obtain ⟨g1, -, -⟩ := cok_of hE.2.1
      exact kn hF00 hq h (by rw [bne_iff_ne]; exact g1)
  · refine lv_aload_n C0.1 C0.2.1 dJ7_copyOf_6403c_38 rfl (lv_at hl 0 rfl) ?_
    rw [Int.toNat_natCast] at hF
    exact fl_nret (g := fun q => (va_up K q (102 + 4 * N.toNat), cpyP (clrN P q) arr q 0 0 n0, clr I q)) C0 hF hr hq h1q dJ7_copyOf_6403c_39 (Nat.le_refl _) (by omega)
theorem pm_copy3 : plainM yJ7_copyOf_6403c 3 := by decide +kernel
theorem c_copy2 (arr n0 t civ : Nat) (Cv : String) (Tv : u_T) (tyv : Nat → FieldType) (hE : Elt t civ Cv Tv tyv) (N : Int) (rN : rg N) (k0 : K arr = 102 + 4 * n0) (hN : (n0 : Int) ≤ N ∧ N ≤ 2000) (hel : ∀ j, j < n0 → P arr j = 0 ∨ K (P arr j) = t) :
    Met l yJ7_copyOf_1904c [.code yJ7_copyOf_1904c cJ7_copyOf_1904c 2 (some (.array (.object "java/lang/Object")))] { frames := 2, cells := 1, slots := 2000, locals := 60 } (va_Pc [.ref arr, iv N] (FW D cy B L K P J I)) (QN D cy B L J (fun q => (va_up K q (102 + 4 * N.toNat), cpyP (clrN P q) arr q 0 0 n0, clr I q))) 1 2000 (fun q => B ≤ q) := by
  refine fl_body (own := "java/util/Arrays") [.ref arr, iv N] (by decide) rfl (Nat.le_of_ble_eq_true rfl) ?_
  intro p e s m args below meth c ls C0 hr hF hl
  have hl : lv_has ls 2 [(0, .ref arr), (1, iv N)] := hl
  obtain ⟨mi, hMi⟩ := C0.2.2.2.2.2.1.2.2.2.2
  obtain ⟨ka, hka⟩ := hF.get (a := arr) (by omega)
  rw [fcell_arr (kd := 2) (n := n0) (by omega) (by decide), farr_ref] at hka
  have hnm : s.vm.findClass "[Ljava/lang/Object;" = some (cy 2) := va_nmO (C0.2.2.2.2.2.1.1.2 2 _ rfl).2 (by decide)
  refine lv_aload_n C0.1 C0.2.1 dJ7_copyOf_1904c_0 rfl (lv_at hl 0 rfl) ?_
  refine lv_iload_n C0.1 C0.2.1 dJ7_copyOf_1904c_1 rfl (lv_at hl 1 rfl) ?_
  refine lv_aload_n C0.1 C0.2.1 dJ7_copyOf_1904c_2 rfl (lv_at hl 0 rfl) ?_
  refine va_getC C0.1 C0.2.1 (C0.2.2.1.trans hl.1.symm) C0.2.2.2.1 (C0.2.2.2.2.2.1.use _ aw_600) (C0.2.2.2.2.2.1.use _ aw_1194) (C0.2.2.2.2.2.1.use _ aw_1193) (C0.2.2.2.2.2.1.use _ aw_601) (C0.2.2.2.2.2.1.use _ aw_616) hMi ⟨_, hF.1 ka _ hka, rfl, hnm⟩ (Nat.le_of_ble_eq_true rfl) (Nat.le_of_ble_eq_true rfl) dJ7_copyOf_1904c_3 ?_
  have C1 := C0
  obtain ⟨hx, hb, hml, hown, -, hFK, hFZ⟩ := C1
  refine fl_rn hF (va_runS (Ts := AW) (As := [.ref arr, iv N, .ref mi]) (rest := []) ⟨hx, hb, hml, hown, hFK.use⟩ (c_copy3 l D cy B L K P J I arr n0 t civ mi Cv Tv tyv hE N rN k0 hN hel) ⟨callB_of 3 hFK.use (gi_1 aw_619 rfl) rfl rfl rfl (hFK.use _ aw_80) (hFK.use _ aw_617) pm_copy3 ⟨Nat.le_of_ble_eq_true rfl, Nat.le_of_ble_eq_true rfl⟩, hFK.use _ aw_618⟩ ⟨fun a U g mk h => ⟨h.1, (FW.blind (av := a.toList) a U g mk ⟨by simp, h.2.1⟩).2, va_Mi.moved (u := U) (U := U.calling g mk a) (Vm.Alike.refl U.vm) h.2.2⟩, fun U hU hW => ⟨rfl, hF.world hFK hFZ hU hW, va_Mi.moved hW.alike hMi⟩⟩ rfl rfl hl.1 rfl (lv_room (Nat.le_of_ble_eq_true rfl)) dJ7_copyOf_1904c_6 ⟨Nat.le_of_ble_eq_true rfl, Nat.le_of_ble_eq_true rfl⟩) (fun q H locs hq h1q hF => ?_)
  exact fl_nret (g := fun q => (va_up K q (102 + 4 * N.toNat), cpyP (clrN P q) arr q 0 0 n0, clr I q)) C0 hF hr hq h1q dJ7_copyOf_1904c_9 (Nat.le_refl _) (Nat.le_refl _)
theorem pm_copy2 : plainM yJ7_copyOf_1904c 2 := by decide +kernel
theorem g1_of {co : Nat} (ho : cok co 0 = true) : gok co 0 1 true = true := by
  obtain ⟨q1, q2, q3⟩ := cok_of ho
  simp only [gok, Bool.and_eq_true, bne_iff_ne, decide_eq_true_eq, beq_iff_eq]
  exact ⟨⟨⟨⟨q1, q2⟩, q3⟩, by decide⟩, rfl⟩
theorem g2_of {co : Nat} (ho : cok co 0 = true) : gok co 0 2 false = true := by
  obtain ⟨q1, q2, q3⟩ := cok_of ho
  simp only [gok, Bool.and_eq_true, bne_iff_ne, decide_eq_true_eq, beq_iff_eq]
  exact ⟨⟨⟨⟨q1, q2⟩, q3⟩, by decide⟩, rfl⟩
theorem g0_of {co : Nat} (ho : cok co 0 = true) : gok co 0 0 false = true := by
  obtain ⟨q1, q2, q3⟩ := cok_of ho
  simp only [gok, Bool.and_eq_true, bne_iff_ne, decide_eq_true_eq, beq_iff_eq]
  exact ⟨⟨⟨⟨q1, q2⟩, q3⟩, by decide⟩, rfl⟩
theorem cne {co : Nat} (ho : cok co 0 = true) : (co != 0) = true := by
  obtain ⟨q1, -, -⟩ := cok_of ho
  rw [bne_iff_ne]; exact q1
/-- the first row of a list: ten places -/
theorem c_growF (a co : Nat) (ka : K a = co) (ho : cok co 0 = true) (h1 : P a 1 = 1) (N : Int) (rN : rg N) (hN : N ≤ 10) :
    Met l yJx4a65c_grow_92f84 [.code yJx4a65c_grow_92f84 cJx4a65c_grow_92f84 4 (some (.array (.object "java/lang/Object")))] { frames := 3, cells := 1, slots := 2000, locals := 90 } (va_Pc [.ref a, iv N] (FW D cy B L K P J I)) (QN D cy B L J (fun q => (va_up K q 142, up (clrN P q) a 1 q, clr I q))) 1 2000 (fun q => B ≤ q) := by
  refine fl_body (own := "java/util/ArrayList") [.ref a, iv N] (by decide) rfl (Nat.le_of_ble_eq_true rfl) ?_
  intro p e s m args below meth c ls C0 hr hF hl
  have hl : lv_has ls 4 [(0, .ref a), (1, iv N)] := hl
  have hF00 := hF
  refine lv_aload_n C0.1 C0.2.1 dJx4a65c_grow_92f84_0 rfl (lv_at hl 0 rfl) ?_
  refine fl_getr1 (k := 1) ck_0 C0 hF ka (g1_of ho) h1 ⟨rfl, rfl⟩ aw_173 dJx4a65c_grow_92f84_1 ?_
  refine va_tlen C0.1 C0.2.1 C0.2.2.2.2.2.2.2.2 hF.2.2.1 (v := Int32.ofInt 0) rfl dJx4a65c_grow_92f84_4 ?_
  refine lv_istore_n (lv' := [(2, iv 0), (0, .ref a), (1, iv N)]) C0.1 C0.2.1 dJx4a65c_grow_92f84_5 rfl hl (by decide) rfl (fun ls hl => ?_)
  refine lv_iload_n C0.1 C0.2.1 dJx4a65c_grow_92f84_6 rfl (lv_at hl 0 rfl) ?_
  refine fl_if_gt (tgt := 20) C0 (rgk 0 rfl) dJx4a65c_grow_92f84_7 (by decide) (fun c1 => absurd c1 (by decide)) (fun c1 => ?_)
  refine lv_aload_n C0.1 C0.2.1 dJx4a65c_grow_92f84_10 rfl (lv_at hl 1 rfl) ?_
  refine fl_getr1 (k := 1) ck_0 C0 hF ka (g1_of ho) h1 ⟨rfl, rfl⟩ aw_173 dJx4a65c_grow_92f84_11 ?_
  refine va_gets C0.1 C0.2.1 C0.2.2.2.2.2.2.2.1 hF.2.2.1 C0.2.2.2.1 (C0.2.2.2.2.2.1.use _ aw_171) (fun _ h => h) dJx4a65c_grow_92f84_14 ?_
  refine lv_acmp_eq (rx := some (cy 7)) (ry := some (cy 7)) (tgt := 45) C0.1 C0.2.1 dJx4a65c_grow_92f84_17 (by decide) (fun _ => ?_) (fun h => absurd rfl h)
  refine lv_aload_n C0.1 C0.2.1 dJx4a65c_grow_92f84_45 rfl (lv_at hl 1 rfl) ?_
  refine fl_bipush C0 dJx4a65c_grow_92f84_46 (by decide) ?_
  refine lv_iload_n C0.1 C0.2.1 dJx4a65c_grow_92f84_48 rfl (lv_at hl 2 rfl) ?_
  refine fl_max C0 hl.1 (rgk 10 rfl) rN aw_625 (Nat.le_of_ble_eq_true rfl) (Nat.le_of_ble_eq_true rfl) (Nat.le_of_ble_eq_true rfl) (Nat.le_of_ble_eq_true rfl) dJx4a65c_grow_92f84_49 ?_
  have hmx : imax 10 N = 10 := by unfold imax; rw [if_neg (by omega)]
  rw [hmx]
  refine fl_newr C0 hF (rgk 10 rfl) (by decide) (by decide) aw_626 (Nat.le_of_ble_eq_true rfl) (Nat.le_of_ble_eq_true rfl) dJx4a65c_grow_92f84_52 (fun q H hq hF => ?_)
  have h1q : 1 < q := hF.ne0 (by rw [va_up_self]; decide)
  refine lv_dup_x1 C0.1 C0.2.1 dJx4a65c_grow_92f84_55 rfl rfl ?_
  refine fl_putr (k := 1) ck_0 C0 hF (kn hF00 hq ka (cne ho)) (g1_of ho) h1q ⟨rfl, rfl, rfl⟩ ⟨rfl, rfl⟩ aw_173 dJx4a65c_grow_92f84_56 (fun H locs hF => ?_)
  exact fl_nret (g := fun q => (va_up K q 142, up (clrN P q) a 1 q, clr I q)) C0 hF hr hq h1q dJx4a65c_grow_92f84_59 (Nat.le_of_ble_eq_true rfl) (Nat.le_of_ble_eq_true rfl)
theorem pm_grow : plainM yJx4a65c_grow_92f84 1 := by decide +kernel
/-- a full row gives way to one of half as many places more -/
theorem c_growM (a co n0 t civ : Nat) (Cv : String) (Tv : u_T) (tyv : Nat → FieldType) (hE : Elt t civ Cv Tv tyv) (ka : K a = co) (ho : cok co 0 = true) (k0 : K (P a 1) = 102 + 4 * n0) (hn : 2 ≤ n0 ∧ n0 ≤ 1000) (hel : ∀ j, j < n0 → P (P a 1) j = 0 ∨ K (P (P a 1) j) = t) :
    Met l yJx4a65c_grow_92f84 [.code yJx4a65c_grow_92f84 cJx4a65c_grow_92f84 4 (some (.array (.object "java/lang/Object")))] { frames := 3, cells := 1, slots := 2000, locals := 90 } (va_Pc [.ref a, iv ((n0 : Int) + 1)] (FW D cy B L K P J I)) (QN D cy B L J (fun q => (va_up K q (102 + 4 * (n0 + n0 / 2)), up (cpyP (clrN P q) (P a 1) q 0 0 n0) a 1 q, clr I q))) 1 2000 (fun q => B ≤ q) := by
  refine fl_body (own := "java/util/ArrayList") [.ref a, iv ((n0 : Int) + 1)] (by decide) rfl (Nat.le_of_ble_eq_true rfl) ?_
  intro p e s m args below meth c ls C0 hr hF hl
  have hl : lv_has ls 4 [(0, .ref a), (1, iv ((n0 : Int) + 1))] := hl
  have hF00 := hF
  have rn : rg (n0 : Int) := ⟨by omega, by omega⟩
  have rn1 : rg ((n0 : Int) + 1) := ⟨by omega, by omega⟩
  have hz : (K (P a 1) != 0) = true := by simp only [bne_iff_ne]; omega
  refine lv_aload_n C0.1 C0.2.1 dJx4a65c_grow_92f84_0 rfl (lv_at hl 0 rfl) ?_
  refine fl_getr (k := 1) (t := K (P a 1)) ck_0 C0 hF ka (g1_of ho) rfl hz ⟨rfl, rfl⟩ aw_173 dJx4a65c_grow_92f84_1 ?_
  refine fl_alen (n := n0) (kd := 2) C0 hF (by omega) (by decide) dJx4a65c_grow_92f84_4 ?_
  refine lv_istore_n (lv' := [(2, iv (n0 : Int)), (0, .ref a), (1, iv ((n0 : Int) + 1))]) C0.1 C0.2.1 dJx4a65c_grow_92f84_5 rfl hl (by decide) rfl (fun ls hl => ?_)
  refine lv_iload_n C0.1 C0.2.1 dJx4a65c_grow_92f84_6 rfl (lv_at hl 0 rfl) ?_
  refine fl_if_gt (tgt := 20) C0 rn dJx4a65c_grow_92f84_7 (by decide) (fun c1 => ?_) (fun c1 => absurd (show (0 : Int) < n0 by omega) c1)
  refine lv_iload_n C0.1 C0.2.1 dJx4a65c_grow_92f84_20 rfl (lv_at hl 0 rfl) ?_
  refine lv_iload_n C0.1 C0.2.1 dJx4a65c_grow_92f84_21 rfl (lv_at hl 2 rfl) ?_
  refine lv_iload_n C0.1 C0.2.1 dJx4a65c_grow_92f84_22 rfl (lv_at hl 0 rfl) ?_
  refine fl_isub C0 dJx4a65c_grow_92f84_23 ?_
  refine lv_iload_n C0.1 C0.2.1 dJx4a65c_grow_92f84_24 rfl (lv_at hl 0 rfl) ?_
  refine fl_iconst C0 dJx4a65c_grow_92f84_25 ?_
  refine fl_ishr C0 dJx4a65c_grow_92f84_26 ?_
  have e1 : wr ((n0 : Int) + 1 - n0) = 1 := by rw [show (n0 : Int) + 1 - n0 = 1 by omega]; rfl
  have e2 : bsr (n0 : Int) 1 = (n0 / 2 : Nat) := by
    unfold bsr
    have h9 := pk_shrN (n := n0) (by omega) ((1 : Int32) &&& 31) 1 (by decide)
    rw [Nat.pow_one] at h9
    have h8 : Int32.ofInt (n0 : Int) = nI n0 := by simp [Int32.ofInt, nI, Int32.ofNat]
    rw [h8, show Int32.ofInt 1 = (1 : Int32) from rfl, h9, nI_toInt (by omega)]
  rw [e1, e2]
  have e3 : imax 1 ((n0 / 2 : Nat) : Int) = (n0 / 2 : Nat) := by
    unfold imax
    by_cases h : (1 : Int) < (n0 / 2 : Nat)
    · rw [if_pos h]
    · rw [if_neg h]; omega
  have e4 : wr ((n0 : Int) + imax 1 ((n0 / 2 : Nat) : Int)) = ((n0 + n0 / 2 : Nat) : Int) := by
    rw [e3, wr_id (by omega) (by omega)]; omega
  have rh : rg ((n0 / 2 : Nat) : Int) := ⟨by omega, by omega⟩
  refine fl_ri hF (fl_runSG (As := [iv (n0 : Int), iv 1, iv ((n0 / 2 : Nat) : Int)]) (rest := []) C0 hF hl.1 (c_newlen l D cy B L K P J I (n0 : Int) 1 ((n0 / 2 : Nat) : Int) rn (rgk 1 rfl) rh (by rw [e4]; omega) (by rw [e4]; omega)) aw_589 aw_590 aw_82 aw_591 rfl pm_newlen rfl rfl ⟨Nat.le_of_ble_eq_true rfl, Nat.le_of_ble_eq_true rfl⟩ rfl (Nat.le_of_ble_eq_true rfl) dJx4a65c_grow_92f84_27 ⟨Nat.le_of_ble_eq_true rfl, Nat.le_of_ble_eq_true rfl⟩) (fun H locs hF rr => ?_)
  rw [e4] at rr ⊢
  refine lv_istore_n (lv' := [(3, iv ((n0 + n0 / 2 : Nat) : Int)), (2, iv (n0 : Int)), (0, .ref a), (1, iv ((n0 : Int) + 1))]) C0.1 C0.2.1 dJx4a65c_grow_92f84_30 rfl hl (by decide) rfl (fun ls hl => ?_)
  refine lv_aload_n C0.1 C0.2.1 dJx4a65c_grow_92f84_31 rfl (lv_at hl 2 rfl) ?_
  refine lv_aload_n C0.1 C0.2.1 dJx4a65c_grow_92f84_32 rfl (lv_at hl 2 rfl) ?_
  refine fl_getr (k := 1) (t := K (P a 1)) ck_0 C0 hF ka (g1_of ho) rfl hz ⟨rfl, rfl⟩ aw_173 dJx4a65c_grow_92f84_33 ?_
  refine lv_iload_n C0.1 C0.2.1 dJx4a65c_grow_92f84_36 rfl (lv_at hl 0 rfl) ?_
  refine fl_rn hF (fl_runSG (As := [.ref (P a 1), iv ((n0 + n0 / 2 : Nat) : Int)]) (rest := [.ref a]) C0 hF hl.1 (c_copy2 l D cy B L K P J I (P a 1) n0 t civ Cv Tv tyv hE _ rr k0 ⟨by omega, by omega⟩ hel) aw_597 aw_598 aw_80 aw_599 rfl pm_copy2 rfl rfl ⟨Nat.le_of_ble_eq_true rfl, Nat.le_of_ble_eq_true rfl⟩ rfl (Nat.le_of_ble_eq_true rfl) dJx4a65c_grow_92f84_37 ⟨Nat.le_of_ble_eq_true rfl, Nat.le_of_ble_eq_true rfl⟩) (fun q H locs hq h1q hF => ?_)
  rw [Int.toNat_natCast] at hF
  refine lv_dup_x1 C0.1 C0.2.1 dJx4a65c_grow_92f84_40 rfl rfl ?_
  refine fl_putr (k := 1) ck_0 C0 hF (kn hF00 hq ka (cne ho)) (g1_of ho) h1q ⟨rfl, rfl, rfl⟩ ⟨rfl, rfl⟩ aw_173 dJx4a65c_grow_92f84_41 (fun H locs hF => ?_)
  exact fl_nret (g := fun q => (va_up K q (102 + 4 * (n0 + n0 / 2)), up (cpyP (clrN P q) (P a 1) q 0 0 n0) a 1 q, clr I q)) C0 hF hr hq h1q dJx4a65c_grow_92f84_44 (Nat.le_of_ble_eq_true rfl) (Nat.le_of_ble_eq_true rfl)
end LADD2
end
