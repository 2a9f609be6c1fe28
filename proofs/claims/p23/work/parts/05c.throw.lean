/-! methods that may throw: their result is (0, value, state) or (the exception's code, .., state) -/
def exn (k : Nat) : String := if k = 1 then "java/lang/IllegalArgumentException" else if k = 2 then "java/lang/IllegalStateException" else "java/lang/IndexOutOfBoundsException"
def bx {β γ : Type} [Inhabited γ] (x : Option (Nat × β × IT)) (f : β → IT → Option (Nat × γ × IT)) : Option (Nat × γ × IT) := match x with
  | none => none
  | some q => if q.1 = 0 then f q.2.1 q.2.2 else some (q.1, default, q.2.2)
theorem bx_f {β γ : Type} [Inhabited γ] {x : Option (Nat × β × IT)} {f : β → IT → Option (Nat × γ × IT)} {r : Nat × γ × IT} (h : bx x f = some r) : ∃ (c : Nat) (q : β) (I' : IT), x = some (c, q, I') ∧ (c = 0 → f q I' = some r) ∧ (c ≠ 0 → (c, default, I') = r) := by
  cases x with
  | none => cases h
  | some q =>
    refine ⟨q.1, q.2.1, q.2.2, rfl, fun h0 => ?_, fun h0 => ?_⟩
    · simp only [bx, h0, if_true] at h; exact h
    · simp only [bx, h0, if_false] at h; exact Option.some.inj h
theorem bx_0 {β γ : Type} [Inhabited γ] (q : β) (I : IT) (f : β → IT → Option (Nat × γ × IT)) : bx (some (0, q, I)) f = f q I := rfl
theorem bx_s {β γ : Type} [Inhabited γ] {c : Nat} (hc : c ≠ 0) (q : β) (I : IT) (f : β → IT → Option (Nat × γ × IT)) : bx (some (c, q, I)) f = some (c, default, I) := by simp [bx, hc]
abbrev FX (D : va_G) (cy : Nat → ClassId) (B : Nat) (L : List Nat) (K : KT) (P : PT) (J I : IT) (U : State) : Prop := FS D cy B L K P J U.heap I U.heap []
abbrev XI (D : va_G) (cy : Nat → ClassId) (B : Nat) (L : List Nat) (K : KT) (P : PT) (J : IT) (res : Nat × Int × IT) : Array Value → State → Outcome → State → Prop := va_Qi (fun (r : Int32) (_ : Unit) => res.1 = 0 ∧ r = Int32.ofInt res.2.1 ∧ rg res.2.1) (fun _ t => FW D cy B L K P J res.2.2 t) (fun q => B ≤ q)
abbrev XV (D : va_G) (cy : Nat → ClassId) (B : Nat) (L : List Nat) (K : KT) (P : PT) (J : IT) (res : Nat × Unit × IT) : Array Value → State → Outcome → State → Prop := va_Qv (fun (_ : Unit) => res.1 = 0) (fun _ t => FW D cy B L K P J res.2.2 t) (fun q => B ≤ q)
abbrev XR (D : va_G) (cy : Nat → ClassId) (B : Nat) (L : List Nat) (K : KT) (P : PT) (J : IT) (res : Nat × Nat × IT) : Array Value → State → Outcome → State → Prop := va_Qr (fun (_ : Unit) => res.1 = 0) (fun _ a t => a = res.2.1 ∧ FW D cy B L K P J res.2.2 t) (fun q => B ≤ q)
abbrev XX {β : Type} (D : va_G) (cy : Nat → ClassId) (B : Nat) (L : List Nat) (K : KT) (P : PT) (J : IT) (res : Nat × β × IT) : String → State → State → Prop := vx_X (fun (_ : Unit) => res.1 ≠ 0) (fun E _ t => E = exn res.1 ∧ FX D cy B L K P J res.2.2 t) (fun q => B ≤ q)
theorem oks_IAE : ∀ w ∈ vx_atS "RejudgeHall" 299 "java/lang/IllegalArgumentException" ["java/lang/RuntimeException", "java/lang/Exception"], w ∈ AW := fun w hw => by
  have h : (vx_atS "RejudgeHall" 299 "java/lang/IllegalArgumentException" ["java/lang/RuntimeException", "java/lang/Exception"]).all (fun w => decide (w ∈ lw_tbl) && mvW w) = true := by decide +kernel
  have h1 := List.all_eq_true.mp h w hw
  simp only [Bool.and_eq_true, decide_eq_true_eq] at h1
  exact List.mem_filter.mpr h1
theorem oks_ISE : ∀ w ∈ vx_atS "RejudgeHall" 79 "java/lang/IllegalStateException" ["java/lang/RuntimeException", "java/lang/Exception"], w ∈ AW := fun w hw => by
  have h : (vx_atS "RejudgeHall" 79 "java/lang/IllegalStateException" ["java/lang/RuntimeException", "java/lang/Exception"]).all (fun w => decide (w ∈ lw_tbl) && mvW w) = true := by decide +kernel
  have h1 := List.all_eq_true.mp h w hw
  simp only [Bool.and_eq_true, decide_eq_true_eq] at h1
  exact List.mem_filter.mpr h1
theorem oks_IOE : ∀ w ∈ vx_atS "RejudgeHall" 181 "java/lang/IndexOutOfBoundsException" ["java/lang/RuntimeException", "java/lang/Exception"], w ∈ AW := fun w hw => by
  have h : (vx_atS "RejudgeHall" 181 "java/lang/IndexOutOfBoundsException" ["java/lang/RuntimeException", "java/lang/Exception"]).all (fun w => decide (w ∈ lw_tbl) && mvW w) = true := by decide +kernel
  have h1 := List.all_eq_true.mp h w hw
  simp only [Bool.and_eq_true, decide_eq_true_eq] at h1
  exact List.mem_filter.mpr h1
/-- the exception classes: their links in RejudgeHall's pool -/
def Exc (E : String) (ik ic : Nat) : Prop := Cond.classLink "RejudgeHall" ik E ∈ AW ∧ Cond.initialized E ∈ AW ∧ (∀ w ∈ vx_atS "RejudgeHall" ic E ["java/lang/RuntimeException", "java/lang/Exception"], w ∈ AW) ∧ Bundle.fit E = true ∧ ∀ w ∈ Cond.classLink "RejudgeHall" ik E :: Cond.initialized E :: vx_atS "RejudgeHall" ic E ["java/lang/RuntimeException", "java/lang/Exception"], vx_ot w = true
theorem ex_1 : Exc (exn 1) 295 299 := ⟨aw_234, aw_56, oks_IAE, by decide +kernel, List.all_eq_true.mp (by decide +kernel)⟩
theorem ex_2 : Exc (exn 2) 75 79 := ⟨aw_302, aw_57, oks_ISE, by decide +kernel, List.all_eq_true.mp (by decide +kernel)⟩
theorem ex_3 : Exc (exn 3) 177 181 := ⟨aw_452, aw_63, oks_IOE, by decide +kernel, List.all_eq_true.mp (by decide +kernel)⟩
section FT
variable {p : Program} {l : Launch} {e : Env} {R : Room} {s : State} {m : MethodId} {args : Array Value} {below : List Frame} {meth : Method} {c : Code} {H : Heap} {locs : List Loc} {cells slots mc ms mc' ms' : Nat} {Q : State → Prop}
variable {D : va_G} {cy : Nat → ClassId} {B : Nat} {L : List Nat} {K : KT} {P : PT} {J I : IT} {own : String} {cc : ByteArray} {nL pc : Nat} {ls : Array Slot} {rest st0 As : List Value}
variable {Qc : Array Value → State → Outcome → State → Prop} {XC : String → State → State → Prop} {β : Type} {ik is ic k : Nat} {text : String}
theorem FS.thrown (hF : FS D cy B L K P J s.heap I H locs) {t : State} (h1 : H.size ≤ t.heap.size) (h2 : ∀ q : Nat, q < H.size → t.heap[q]? = H[q]?) : FX D cy B L K P J I t ∧ va_F (fun q => B ≤ q) s t := by
  refine ⟨⟨hF.1.kept (fun k q hk => h2 q.1 ((hF.1 k q hk).lt)), hF.2.1, va_S.rf, hF.2.2.2.1, hF.2.2.2.2.1, Nat.le_trans hF.2.2.2.2.2.1 (Nat.le_trans hF.2.2.1.1 h1), hF.2.2.2.2.2.2⟩, Nat.le_trans hF.2.2.1.1 h1, fun q g1 g2 => ?_⟩
  rw [h2 q (Nat.lt_of_lt_of_le g1 hF.2.2.1.1)]
  exact hF.2.2.1.2.1 q g1 g2
theorem fl_throw {res : Nat × β × IT} {v : β} (C0 : FC D cy B p s m meth c "RejudgeHall" cc nL) (hF : FS D cy B L K P J s.heap I H locs) (hst : l.stackTraces = false) (hx0 : ∀ x ∈ c.exceptionTable.toList, False) (hsz : ls.size = nL) (hE : Exc (exn k) ik ic) (hk : k ≠ 0) (ht : (is, text) ∈ txts) (he : (k, v, I) = res)
    (d0 : decode cc pc = .ok (.new ik, 3)) (d3 : decode cc (pc + 3) = .ok (.dup, 1)) (d4 : decode cc (pc + 4) = .ok (.ldc is, 2)) (d6 : decode cc (pc + 6) = .ok (.invokespecial ic, 3)) (d9 : decode cc (pc + 9) = .ok (.athrow, 1))
    (hfr : 5 < R.frames) (hlo : (rest.map fun v => v.category).sum + 82 ≤ R.locals) (hc : cells + 1 ≤ R.cells) (hs : slots + 6 ≤ R.slots) (hmc : cells + 1 ≤ mc) (hms : slots + 6 ≤ ms) :
    W p l e R s m args below meth c H locs cells slots (vx_MQ below Qc (XX D cy B L K P J res) args s mc ms (fun q => B ≤ q)) (F0 m pc ls rest) := by
  subst he
  obtain ⟨hx, hb, hml, hown, hlocks, hFK, hFZ⟩ := C0
  obtain ⟨w1, w2, w3, hfit, hgood⟩ := hE
  obtain ⟨sa, hsa⟩ := hFK.2.2.1 _ ht
  refine vx_throwS hx hb hst hown hfit (by decide +kernel) (hFK.use _ w1) (hFK.use _ w2) hsa (fun w hw => hFK.use _ (w3 w hw)) hgood hFZ.1.1 hFZ.1.2 hF.2.2.1 (hsz.trans hml.symm) d0 d3 d4 d6 d9 (fun x hx => absurd hx (fun h => hx0 x h)) hfr (by simpa using hlo) hc hs hlocks ?_ (fun z hz => hF.2.2.1.2.2 z hz) hmc hms
  intro t _ h1 h2
  obtain ⟨g1, g2⟩ := hF.thrown h1 h2
  exact ⟨(), hk, ⟨rfl, g1⟩, g2⟩
theorem fl_throwW {res : Nat × β × IT} {v : β} (C0 : FC D cy B p s m meth c "RejudgeHall" cc nL) (hF : FS D cy B L K P J s.heap I H locs) (hst : l.stackTraces = false) (hx0 : ∀ x ∈ c.exceptionTable.toList, False) (hsz : ls.size = nL) (hE : Exc (exn k) ik ic) (hk : k ≠ 0) (ht : (is, text) ∈ txts) (he : (k, v, I) = res)
    (d0 : decode cc pc = .ok (.new ik, 3)) (d3 : decode cc (pc + 3) = .ok (.dup, 1)) (d4 : decode cc (pc + 4) = .ok (.ldc_w is, 3)) (d7 : decode cc (pc + 7) = .ok (.invokespecial ic, 3)) (d10 : decode cc (pc + 10) = .ok (.athrow, 1))
    (hfr : 5 < R.frames) (hlo : (rest.map fun v => v.category).sum + 82 ≤ R.locals) (hc : cells + 1 ≤ R.cells) (hs : slots + 6 ≤ R.slots) (hmc : cells + 1 ≤ mc) (hms : slots + 6 ≤ ms) :
    W p l e R s m args below meth c H locs cells slots (vx_MQ below Qc (XX D cy B L K P J res) args s mc ms (fun q => B ≤ q)) (F0 m pc ls rest) := by
  subst he
  obtain ⟨hx, hb, hml, hown, hlocks, hFK, hFZ⟩ := C0
  obtain ⟨w1, w2, w3, hfit, hgood⟩ := hE
  obtain ⟨sa, hsa⟩ := hFK.2.2.1 _ ht
  refine vx_throwSW hx hb hst hown hfit (by decide +kernel) (hFK.use _ w1) (hFK.use _ w2) hsa (fun w hw => hFK.use _ (w3 w hw)) hgood hFZ.1.1 hFZ.1.2 hF.2.2.1 (hsz.trans hml.symm) d0 d3 d4 d7 d10 (fun x hx => absurd hx (fun h => hx0 x h)) hfr (by simpa using hlo) hc hs hlocks ?_ (fun z hz => hF.2.2.1.2.2 z hz) hmc hms
  intro t _ h1 h2
  obtain ⟨g1, g2⟩ := hF.thrown h1 h2
  exact ⟨(), hk, ⟨rfl, g1⟩, g2⟩
/-- not caught: on to the caller -/
theorem fl_prop {res : Nat × β × IT} {v : β} {q : Addr} {ce : Cell} (C0 : FC D cy B p s m meth c own cc nL) (hF : FS D cy B L K P J s.heap I H locs) (hx0 : ∀ x ∈ c.exceptionTable.toList, False) (hk : k ≠ 0) (h1 : H[q]? = some ce) (h2 : ce.vm = .none) (h3 : s.vm.findClass (exn k) = some ce.cls) (he : (k, v, I) = res) (hmc : cells ≤ mc) (hms : slots ≤ ms) :
    vx_W p l e R s m args below meth c H locs cells slots (vx_MQ below Qc (XX D cy B L K P J res) args s mc ms (fun q => B ≤ q)) (F0 m pc ls rest) q := by
  subst he
  refine vx_out (fun x hx => absurd hx (fun h => hx0 x h)) C0.2.2.2.2.1 h1 h2 h3 ?_ (fun z hz => hF.2.2.1.2.2 z hz) hmc hms
  intro t ht _
  obtain ⟨g1, g2⟩ := hF.thrown (t := t) (by rw [ht]; exact Nat.le_refl _) (fun q _ => by rw [ht])
  exact ⟨(), hk, ⟨rfl, g1⟩, g2⟩
theorem fl_iretX {r : Int} {res : Nat × Int × IT} (C0 : FC D cy B p s m meth c own cc nL) (hF : FS D cy B L K P J s.heap I H locs) (hr : meth.sig.returnType = some .int) (rr : rg r) (he : (0, r, I) = res) (hdg : decode cc pc = .ok (.ireturn, 1)) (hmc : cells ≤ mc) (hms : slots ≤ ms) : W p l e R s m args below meth c H locs cells slots (vx_MQ below (XI D cy B L K P J res) XC args s mc ms (fun q => B ≤ q)) (F0 m pc ls [iv r]) := by
  subst he
  obtain ⟨hx, hb, -, -, hlocks, hFK, hFZ⟩ := C0
  exact W.widen hmc hms (vx_ret (W.iret hx hb hr (fun t ht hW => ⟨⟨_, (), rfl, ⟨rfl, rfl, rr⟩, hF.world hFK hFZ ht hW⟩, hF.2.2.1.F ht⟩) (fun q hq => hF.2.2.1.2.2 q hq) hdg (hlocks := hlocks)))
theorem fl_zretX {r : Int} {res : Nat × Int × IT} (C0 : FC D cy B p s m meth c own cc nL) (hF : FS D cy B L K P J s.heap I H locs) (hr : meth.sig.returnType = some .boolean) (rr : rg r) (h01 : r = 0 ∨ r = 1) (he : (0, r, I) = res) (hdg : decode cc pc = .ok (.ireturn, 1)) (hmc : cells ≤ mc) (hms : slots ≤ ms) : W p l e R s m args below meth c H locs cells slots (vx_MQ below (XI D cy B L K P J res) XC args s mc ms (fun q => B ≤ q)) (F0 m pc ls [iv r]) := by
  subst he
  obtain ⟨hx, hb, -, -, hlocks, hFK, hFZ⟩ := C0
  exact W.widen hmc hms (vx_ret (W.zret hx hb hr (by rcases h01 with rfl | rfl <;> rfl) (fun t ht hW => ⟨⟨_, (), rfl, ⟨rfl, rfl, rr⟩, hF.world hFK hFZ ht hW⟩, hF.2.2.1.F ht⟩) (fun q hq => hF.2.2.1.2.2 q hq) hdg (hlocks := hlocks)))
theorem fl_vretX {res : Nat × Unit × IT} (C0 : FC D cy B p s m meth c own cc nL) (hF : FS D cy B L K P J s.heap I H locs) (hr : meth.sig.returnType = none) (he : (0, (), I) = res) (hdg : decode cc pc = .ok (.return_, 1)) (hmc : cells ≤ mc) (hms : slots ≤ ms) : W p l e R s m args below meth c H locs cells slots (vx_MQ below (XV D cy B L K P J res) XC args s mc ms (fun q => B ≤ q)) (F0 m pc ls []) := by
  subst he
  obtain ⟨hx, hb, -, -, hlocks, hFK, hFZ⟩ := C0
  exact W.widen hmc hms (vx_ret (W.vret hx hb hr (fun t ht hW => ⟨⟨(), rfl, rfl, hF.world hFK hFZ ht hW⟩, hF.2.2.1.F ht⟩) (fun q hq => hF.2.2.1.2.2 q hq) hdg (hlocks := hlocks)))
theorem fl_aretX {a : Nat} {res : Nat × Nat × IT} {C : String} (C0 : FC D cy B p s m meth c own cc nL) (hF : FS D cy B L K P J s.heap I H locs) (hr : meth.sig.returnType = some (.object C)) (he : (0, a, I) = res) (hdg : decode cc pc = .ok (.areturn, 1)) (hmc : cells ≤ mc) (hms : slots ≤ ms) : W p l e R s m args below meth c H locs cells slots (vx_MQ below (XR D cy B L K P J res) XC args s mc ms (fun q => B ≤ q)) (F0 m pc ls [.ref a]) := by
  subst he
  obtain ⟨hx, hb, -, -, hlocks, hFK, hFZ⟩ := C0
  exact W.widen hmc hms (vx_ret (W.aret hx hb hr (Or.inl ⟨_, rfl⟩) (Or.inr ⟨_, rfl⟩) (fun t ht hW => ⟨⟨(), _, rfl, rfl, rfl, hF.world hFK hFZ ht hW⟩, hF.2.2.1.F ht⟩) (fun q hq => hF.2.2.1.2.2 q hq) hdg (hlocks := hlocks)))
variable {y : MethodName} {bytes : ByteArray} {maxL idx co n b ci : Nat} {ret : Option FieldType} {rm : Room} {C : String} {T : u_T} {ty : Nat → FieldType}
theorem fl_runVX (C0 : FC D cy B p s m meth c own cc nL) (hF : FS D cy B L K P J s.heap I H locs) (hsz : ls.size = nL) (hC : Cls ci C T ty) (h : K b = co) (ho : cok co ci = true)
    (hM : vx_Met l y [.code y bytes maxL ret] rm (va_Pc (.ref b :: As) (FW D cy B L K P J I)) Qc XC mc ms (fun q => B ≤ q)) (w1 : Cond.methodLink own idx y ∈ AW) (w2 : Cond.instanceMethod y ∈ AW) (w3 : Cond.selects C y y ∈ AW) (w4 : Cond.initialized C ∈ AW) (w5 : Cond.code y bytes maxL ret ∈ AW)
    (hyC : y.cls = C) (hn : As.length = n) (hd : plainM y n) (hrc : rm.cells = mc) (hrs : rm.slots = ms) (hR : rooms R rm maxL) (hst : st0 = As.reverse ++ .ref b :: rest) (hW : (rest.map fun v => v.category).sum ≤ 8) (hdg : decode cc pc = .ok (.invokevirtual idx, 3)) (hf : cells + mc ≤ R.cells ∧ slots + ms ≤ R.slots) :
    vx_Run p l e R s m args below meth c H locs cells slots mc ms (F0 m pc ls st0) rest (Qc (Value.ref b :: As).toArray) XC (fun q => B ≤ q) := by
  obtain ⟨h1, h2, h3⟩ := cok_of ho
  subst h
  obtain ⟨hx, hb, hml, hown, -, hFK, hFZ⟩ := C0
  exact vx_runV (Ts := AW) ⟨hx, hb, hml, hown, hFK.use⟩ hM (cwV n hFK.use (gi_c w1 rfl (gi_c w2 rfl (gi_c w3 rfl (gi_c w4 rfl (gi_1 w5 rfl))))) rfl hrc hrs ⟨hyC, hd⟩ hR) ⟨FW.blind, hF.recv hC hFK h1 h2 h3, hF.pre hFK hFZ _⟩ rfl hn hsz hst (lv_room hW) hdg hf
theorem fl_runSX (C0 : FC D cy B p s m meth c own cc nL) (hF : FS D cy B L K P J s.heap I H locs) (hsz : ls.size = nL)
    (hM : vx_Met l y [.code y bytes maxL ret] rm (va_Pc As (FW D cy B L K P J I)) Qc XC mc ms (fun q => B ≤ q)) (w1 : Cond.methodLink own idx y ∈ AW) (w2 : Cond.static y ∈ AW) (w4 : Cond.initialized y.cls ∈ AW) (w5 : Cond.code y bytes maxL ret ∈ AW)
    (hn : As.length = n) (hd : plainM y n) (hrc : rm.cells = mc) (hrs : rm.slots = ms) (hR : rooms R rm maxL) (hst : st0 = As.reverse ++ rest) (hW : (rest.map fun v => v.category).sum ≤ 8) (hdg : decode cc pc = .ok (.invokestatic idx, 3)) (hf : cells + mc ≤ R.cells ∧ slots + ms ≤ R.slots) :
    vx_Run p l e R s m args below meth c H locs cells slots mc ms (F0 m pc ls st0) rest (Qc As.toArray) XC (fun q => B ≤ q) := by
  obtain ⟨hx, hb, hml, hown, -, hFK, hFZ⟩ := C0
  exact vx_runS (Ts := AW) ⟨hx, hb, hml, hown, hFK.use⟩ hM ⟨callB_of n hFK.use (gi_1 w5 rfl) rfl hrc hrs (hFK.use _ w4) (hFK.use _ w1) hd hR, hFK.use _ w2⟩ ⟨FW.blind, hF.pre hFK hFZ _⟩ rfl hn hsz hst (lv_room hW) hdg hf
theorem FS.afterX {I' : IT} {t : State} {H1 : Heap} {locs1 : List Loc} (hF : FS D cy B L K P J s.heap I H locs) (ht : t.heap = H1) (hS : va_S (fun q => B ≤ q) s.heap H1 locs1) (hw : FX D cy B L K P J I' t) : FS D cy B L K P J s.heap I' H1 locs1 := by
  subst ht
  exact ⟨hw.1, hw.2.1, hS, hF.2.2.2.1, hF.2.2.2.2.1, hF.2.2.2.2.2.1, hw.2.2.2.2.2.2⟩
theorem fl_xi {res : Nat × Int × IT} {a : Array Value} (hF : FS D cy B L K P J s.heap I H locs) (hr : vx_Run p l e R s m args below meth c H locs cells slots mc ms (F0 m pc ls st0) rest (XI D cy B L K P J res a) (XX D cy B L K P J res) (fun q => B ≤ q))
    (kk : res.1 = 0 → ∀ (H1 : Heap) (locs1 : List Loc), FS D cy B L K P J s.heap res.2.2 H1 locs1 → rg res.2.1 → W p l e R s m args below meth c H1 locs1 (cells + mc) (slots + ms) Q (F0 m (pc + 3) ls (iv res.2.1 :: rest)))
    (kx : res.1 ≠ 0 → ∀ (H1 : Heap) (locs1 : List Loc) (q : Addr) (ce : Cell), FS D cy B L K P J s.heap res.2.2 H1 locs1 → H1[q]? = some ce → ce.vm = .none → s.vm.findClass (exn res.1) = some ce.cls → vx_W p l e R s m args below meth c H1 locs1 (cells + mc) (slots + ms) Q (F0 m pc ls rest) q) : W p l e R s m args below meth c H locs cells slots Q (F0 m pc ls st0) :=
  vx_calli hr hF.2.2.1 (fun _ _ h => h) (fun _ h => h) (fun _ _ h => h) (fun E ce q9 u t H1 locs1 ht _ hp hw _ _ hS e1 e2 e3 => by obtain ⟨rfl, hw⟩ := hw; exact kx hp H1 locs1 q9 ce (hF.afterX ht hS hw) e1 e2 e3) (fun r0 u t H1 locs1 ht _ hp hw _ _ hS => by obtain ⟨h0, rfl, hp⟩ := hp; exact kk h0 H1 locs1 (hF.after ht hS hw) hp)
theorem fl_xv {res : Nat × Unit × IT} {a : Array Value} (hF : FS D cy B L K P J s.heap I H locs) (hr : vx_Run p l e R s m args below meth c H locs cells slots mc ms (F0 m pc ls st0) rest (XV D cy B L K P J res a) (XX D cy B L K P J res) (fun q => B ≤ q))
    (kk : res.1 = 0 → ∀ (H1 : Heap) (locs1 : List Loc), FS D cy B L K P J s.heap res.2.2 H1 locs1 → W p l e R s m args below meth c H1 locs1 (cells + mc) (slots + ms) Q (F0 m (pc + 3) ls rest))
    (kx : res.1 ≠ 0 → ∀ (H1 : Heap) (locs1 : List Loc) (q : Addr) (ce : Cell), FS D cy B L K P J s.heap res.2.2 H1 locs1 → H1[q]? = some ce → ce.vm = .none → s.vm.findClass (exn res.1) = some ce.cls → vx_W p l e R s m args below meth c H1 locs1 (cells + mc) (slots + ms) Q (F0 m pc ls rest) q) : W p l e R s m args below meth c H locs cells slots Q (F0 m pc ls st0) :=
  vx_callv hr hF.2.2.1 (fun _ _ h => h) (fun _ h => h) (fun _ _ h => h) (fun E ce q9 u t H1 locs1 ht _ hp hw _ _ hS e1 e2 e3 => by obtain ⟨rfl, hw⟩ := hw; exact kx hp H1 locs1 q9 ce (hF.afterX ht hS hw) e1 e2 e3) (fun u t H1 locs1 ht _ hp hw _ _ hS => kk hp H1 locs1 (hF.after ht hS hw))
theorem vx_callr0 {S SX : Type} {post : S → Prop} {px : SX → Prop} {Bw : S → Nat → State → Prop} {BX : String → SX → State → Prop} {A0 A1 AX : Nat → Prop} {H0 : Heap} {free : Addr → Prop} {a : Array Value} (hr : vx_Run p l e R s m args below meth c H locs cells slots mc ms (F0 m pc ls st0) rest (va_Qr post Bw A1 a) (vx_X px BX AX) free) (hS : va_S A0 H0 H locs) (hA : ∀ q, q < H.size → A1 q → A0 q) (hf : ∀ q, free q → A0 q) (hAX : ∀ q, q < H.size → AX q → A0 q)
    (kx : ∀ (E : String) (ce : Cell) (q9 : Addr) (u : SX) (t : State) (H1 : Heap) (locs1 : List Loc), t.heap = H1 → s.vm.Alike t.vm → px u → BX E u t → H.size ≤ H1.size → (∀ q : Nat, q < H.size → ¬ AX q → H1[q]? = H[q]?) → va_S A0 H0 H1 locs1 → H1[q9]? = some ce → ce.vm = .none → s.vm.findClass E = some ce.cls → vx_W p l e R s m args below meth c H1 locs1 (cells + mc) (slots + ms) Q (F0 m pc ls rest) q9)
    (kk : ∀ (u : S) (ra : Nat) (t : State) (H1 : Heap) (locs1 : List Loc), t.heap = H1 → s.vm.Alike t.vm → post u → Bw u ra t → H.size ≤ H1.size → (∀ q : Nat, q < H.size → ¬ A1 q → H1[q]? = H[q]?) → va_S A0 H0 H1 locs1 → W p l e R s m args below meth c H1 locs1 (cells + mc) (slots + ms) Q (F0 m (pc + 3) ls (.ref ra :: rest))) : W p l e R s m args below meth c H locs cells slots Q (F0 m pc ls st0) := by
  intro T hT X
  rcases hr T hT X with ⟨v, st₀, t, T', L9, h0, X', hL, e1, e2, ⟨⟨u, ra, hv, hp, hb⟩, hz, hk⟩, st⟩ | ⟨q, st₀, t, T', L9, E, ce, h0, X', hL, e1, e2, ⟨u, hp, hb, hz, hk⟩, h1, h2, h3, st⟩
  · cases hv
    rw [h0] at hz hk
    have hS1 := vx_keep h0 e1 hS hA hf hL ⟨by rw [h0]; exact hz, by rw [h0]; exact hk⟩
    obtain ⟨t2, a1, b1⟩ := kk u ra t T'.heap (locs ++ L9) e1.symm (by rw [← e2]; exact X'.warmed.alike) hp hb (by rw [e1]; exact hz) (fun q h1 h2 => by rw [e1]; exact hk q h1 h2) hS1.2.2 T' rfl X'
    exact ⟨t2, st t2 a1, b1⟩
  · rw [h0] at hz hk
    have hS1 := vx_keep h0 e1 hS hAX hf hL ⟨by rw [h0]; exact hz, by rw [h0]; exact hk⟩
    obtain ⟨t2, a1, b1⟩ := kx E ce q u t T'.heap (locs ++ L9) e1.symm (by rw [← e2]; exact X'.warmed.alike) hp hb (by rw [e1]; exact hz) (fun q h1 h2 => by rw [e1]; exact hk q h1 h2) hS1.2.2 (by rw [e1]; exact h1) h2 h3 T' rfl X'
    exact ⟨t2, st.trans a1, b1⟩
theorem fl_xr {res : Nat × Nat × IT} {a : Array Value} (hF : FS D cy B L K P J s.heap I H locs) (hr : vx_Run p l e R s m args below meth c H locs cells slots mc ms (F0 m pc ls st0) rest (XR D cy B L K P J res a) (XX D cy B L K P J res) (fun q => B ≤ q))
    (kk : res.1 = 0 → ∀ (H1 : Heap) (locs1 : List Loc), FS D cy B L K P J s.heap res.2.2 H1 locs1 → W p l e R s m args below meth c H1 locs1 (cells + mc) (slots + ms) Q (F0 m (pc + 3) ls (.ref res.2.1 :: rest)))
    (kx : res.1 ≠ 0 → ∀ (H1 : Heap) (locs1 : List Loc) (q : Addr) (ce : Cell), FS D cy B L K P J s.heap res.2.2 H1 locs1 → H1[q]? = some ce → ce.vm = .none → s.vm.findClass (exn res.1) = some ce.cls → vx_W p l e R s m args below meth c H1 locs1 (cells + mc) (slots + ms) Q (F0 m pc ls rest) q) : W p l e R s m args below meth c H locs cells slots Q (F0 m pc ls st0) :=
  vx_callr0 hr hF.2.2.1 (fun _ _ h => h) (fun _ h => h) (fun _ _ h => h) (fun E ce q9 u t H1 locs1 ht _ hp hw _ _ hS e1 e2 e3 => by obtain ⟨rfl, hw⟩ := hw; exact kx hp H1 locs1 q9 ce (hF.afterX ht hS hw) e1 e2 e3) (fun u ra t H1 locs1 ht _ hp hw _ _ hS => by obtain ⟨rfl, hw⟩ := hw; exact kk hp H1 locs1 (hF.after ht hS hw))
end FT
theorem fl_bodyX {l : Launch} {D : va_G} {cy : Nat → ClassId} {B : Nat} {L : List Nat} {K : KT} {P : PT} {J I : IT} {y : MethodName} {cc : ByteArray} {maxL : Nat} {ret : Option FieldType} {rm : Room} {Qc : Array Value → State → Outcome → State → Prop} {XC : String → State → State → Prop} {mc ms : Nat} {own : String} (av : List Value) (hy : plainName y.cls = true) (ho : y.cls = own) (hn : (lg_sl av).length ≤ maxL)
    (body : ∀ (p : Program) (e : Env) (s : State) (m : MethodId) (args : Array Value) (below : List Frame) (meth : Method) (c : Code) (ls : Array Slot), FC D cy B p s m meth c own cc maxL → meth.sig.returnType = ret → (∀ x ∈ c.exceptionTable.toList, False) → FS D cy B L K P J s.heap I s.heap [] → lv_has ls maxL (lv_args 0 av) →
      W p l e rm s m args below meth c s.heap [] 0 0 (vx_MQ below Qc XC args s mc ms (fun q => B ≤ q)) (F0 m 0 ls [])) : vx_Met l y [.code y cc maxL ret] rm (va_Pc av (FW D cy B L K P J I)) Qc XC mc ms (fun q => B ≤ q) := by
  refine vx_ofW (cc := cc) (maxL := maxL) (ret := ret) hy rfl ?_
  intro p e s m args below meth c s₁ B0 hml ht hv
  obtain ⟨rfl, hF, hFK, hFZ⟩ := hv
  subst ho
  have hl := lv_entry av (n := maxL) hn
  rw [lg_entry_eq]
  generalize (lg_sl av ++ List.replicate (maxL - (lg_sl av).length) Slot.unset).toArray = ls at hl ⊢
  exact body p e s m _ below meth c ls (FC.ofB B0 hml hFK hFZ) B0.returns ht hF hl
