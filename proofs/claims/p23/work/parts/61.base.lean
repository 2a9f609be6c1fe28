/-! BEFORE THERE IS A HALL; the making of one -/
def HB (D : va_G) (cy : Nat → ClassId) (B : Nat) (U : State) : Prop := (1 < B ∧ B ≤ U.heap.size) ∧ FK D cy U ∧ FZ cy B U U.heap ∧ NC U
theorem HB.blind {D : va_G} {cy : Nat → ClassId} {B : Nat} {av : List Value} : FrameBlind (va_Pc av (HB D cy B)) := fun a U g mk h => ⟨h.1, h.2.1, FK.same (s := U) (U := U.calling g mk a) rfl h.2.2.1, FZ.moved (u := U) (U := U.calling g mk a) (Vm.Alike.refl U.vm) h.2.2.2.1, h.2.2.2.2⟩
theorem FZ.narrow {cy : Nat → ClassId} {B B2 : Nat} {U : State} {H : Heap} (h : FZ cy B U H) (hB : B ≤ B2) : FZ cy B2 U H := ⟨⟨h.1.1.narrow (fun q hq => Nat.le_trans hB hq), h.1.2.narrow (fun q hq => Nat.le_trans hB hq)⟩, h.2.1.narrow (fun q hq => Nat.le_trans hB hq), h.2.2.narrow (fun q hq => Nat.le_trans hB hq)⟩
abbrev Q1 (B : Nat) : Array Value → State → Outcome → State → Prop := va_Qi (fun (r : Int32) (_ : Unit) => r = Int32.ofInt 1) (fun _ _ => True) (fun q => B ≤ q)
section HBASE
variable {p : Program} {l : Launch} {e : Env} {R : Room} {s : State} {m : MethodId} {args : Array Value} {below : List Frame} {meth : Method} {c : Code} {H : Heap} {locs : List Loc} {cells slots mc ms : Nat} {Q : State → Prop}
variable {D : va_G} {cy : Nat → ClassId} {B : Nat} {cc : ByteArray} {nL pc : Nat} {ls : Array Slot} {rest st0 As : List Value} {x : Nat} {S S' : Hl} {v : Int}
variable {y : MethodName} {bytes : ByteArray} {maxL idx n : Nat} {ret : Option FieldType} {rm : Room} {hh : List (Nat × Nat × Nat × Nat)}
theorem FS.empty (hB : 1 < B ∧ B ≤ s.heap.size) (hS : va_S (fun q : Nat => B ≤ q) s.heap H locs) : FS D cy B [] (fun _ => 0) (fun _ _ => 0) (fun _ _ => 0) s.heap (fun _ _ => 0) H locs :=
  ⟨fun k q h => by simp [va_pl] at h, ⟨fun i j p q h => by simp [va_pl] at h, fun k q h => by simp [va_pl] at h⟩, hS, fun a h => absurd rfl h, hB.1, hB.2, fun _ _ => rgk 0 rfl⟩
/-- new RejudgeHall() -/
theorem k_new (C : LC p s m meth c D cy B cc nL) (hR : okR R) (hB : 1 < B ∧ B ≤ s.heap.size) (hS : va_S (fun q : Nat => B ≤ q) s.heap H locs) (hsz : ls.size = nL) (hf1 : cells + 1 ≤ R.cells ∧ slots + 12 ≤ R.slots) (hf2 : cells + 1 + 22 ≤ R.cells ∧ slots + 12 + 282 ≤ R.slots)
    (d0 : decode cc pc = .ok (.new 8, 3)) (d3 : decode cc (pc + 3) = .ok (.dup, 1)) (d4 : decode cc (pc + 3 + 1) = .ok (.invokespecial 85, 3))
    (kk : ∀ (x : Nat) (H : Heap) (locs : List Loc), HI D cy B s.heap H locs x s0 → W p l e R s m args below meth c H locs (cells + 1 + 22) (slots + 12 + 282) Q (F0 m (pc + 3 + 1 + 3) ls [.ref x])) : W p l e R s m args below meth c H locs cells slots Q (F0 m pc ls []) := by
  have hF0 := FS.empty (D := D) (cy := cy) hB hS
  have hW0 : WT (fun _ => 0) (fun _ _ => 0) := fun a k h => absurd rfl h
  have T0 : TL (fun _ => (99, 0, 0)) [] := fun b h => absurd h (show ¬ 99 < 20 by decide)
  have K0 : KL (fun _ => 0) [] := ⟨fun b h => absurd rfl h, fun _ => by decide⟩
  refine fl_new ck_8 dv_8 C.1 hF0 (co := 28) rfl aw_68 aw_69 aw_45 hf1.1 hf1.2 d0 (fun x H hx hF1 => ?_)
  refine lv_dup C.1.1 C.1.2.1 d3 rfl ?_
  have g1 : Gw (fun _ => False) [] (fun _ => (99, 0, 0)) (fun _ => 0) (fun _ _ => 0) (fun _ _ => 0) ([] ++ [x]) (va_up (fun _ => (99, 0, 0)) x (0, 0, 0)) (va_up (fun _ => 0) x 28) (clrN (fun _ _ => 0) x) (clr (fun _ _ => 0) x) := Gw.nw T0 K0 hx (Or.inl (by decide))
  have W1 : WT (va_up (fun _ => 0) x 28) (clrN (fun _ _ => 0) x) := fun a k h => by
    exfalso
    apply h
    by_cases z : a = x
    · rw [z, va_up_self]; rfl
    · rw [va_up_ne _ _ z]; rfl
  refine fl_avc hF1 (fl_runI (As := []) (rest := [.ref x]) C.1 hF1 hsz (a_X7_init l D cy B ([] ++ [x]) (va_up (fun _ => 0) x 28) (clrN (fun _ _ => 0) x) (fun _ _ => 0) (clr (fun _ _ => 0) x) W1 x (va_up_self _ _ _) (fun L2 K2 P2 I2 => ∃ tg2 : Tg, HR tg2 K2 P2 I2 x s0 ∧ TL tg2 L2) (h_init g1 hx (List.mem_append_right _ List.mem_cons_self) (va_up_self _ _ _) (fun L2 tg2 K2 P2 I2 g2 _ h2 => ⟨tg2, h2, g2.2.1⟩))) aw_70 aw_71 aw_45 aw_72 rfl rfl pm_X7_init rfl rfl ⟨Nat.le_trans (Nat.le_of_ble_eq_true rfl) hR.1, Nat.le_trans (Nat.le_of_ble_eq_true rfl) hR.2⟩ rfl (Nat.le_of_ble_eq_true rfl) d4 hf2) (fun L1 K1 P1 I1 H locs hF2 hpost hW2 hEX kx => ?_)
  obtain ⟨tg1, hH1, hT1⟩ := hpost
  exact kk x H locs ⟨tg1, L1, K1, P1, _, I1, hF2, hW2, hH1, s0_ok, hT1, kx⟩
theorem HI.far (hI : HI D cy B s.heap H locs x S) {H1 : Heap} {locs1 : List Loc} (h2 : ∀ q : Nat, q < H.size → ¬ H.size ≤ q → H1[q]? = H[q]?) (hS : va_S (fun q => B ≤ q) s.heap H1 locs1) : HI D cy B s.heap H1 locs1 x S := by
  obtain ⟨tg, L, K, P, J, I, hF, h⟩ := hI
  exact ⟨tg, L, K, P, J, I, ⟨hF.1.kept (fun k q hk => h2 q.1 ((hF.1 k q hk).lt) (Nat.not_le.mpr ((hF.1 k q hk).lt))), hF.2.1, hS, hF.2.2.2⟩, h⟩
/-- a call of a method of the law that makes halls of its own: this one stays as it is -/
theorem k_call0 (C : LC p s m meth c D cy B cc nL) (hI : HI D cy B s.heap H locs x S) (hsz : ls.size = nL) (hM : ∀ B2 : Nat, Met l y [.code y bytes maxL ret] rm (va_Pc [] (HB D cy B2)) (Q1 B2) mc ms (fun q => B2 ≤ q)) (w1 : Cond.methodLink "RejudgeHallLaw" idx y ∈ AW) (w2 : Cond.static y ∈ AW) (w4 : Cond.initialized y.cls ∈ AW) (w5 : Cond.code y bytes maxL ret ∈ AW)
    (hd : plainM y 0) (hrc : rm.cells = mc) (hrs : rm.slots = ms) (hR : rooms R rm maxL) (hW : (rest.map fun v => v.category).sum ≤ 8) (hdg : decode cc pc = .ok (.invokestatic idx, 3)) (hf : cells + mc ≤ R.cells ∧ slots + ms ≤ R.slots)
    (kk : ∀ (H : Heap) (locs : List Loc), HI D cy B s.heap H locs x S → W p l e R s m args below meth c H locs (cells + mc) (slots + ms) Q (F0 m (pc + 3) ls (iv 1 :: rest))) : W p l e R s m args below meth c H locs cells slots Q (F0 m pc ls rest) := by
  obtain ⟨v1, v2, v3⟩ := hI.va
  have hBH : B ≤ H.size := Nat.le_trans v3 v1.1
  have hp : ∀ U : State, U.heap = H → s.WarmedH U.vm → va_Pc [] (HB D cy H.size) [].toArray U := fun U h1 h2 => by
    have h := hI.world C h1 h2
    exact ⟨rfl, ⟨Nat.lt_of_lt_of_le v2 hBH, by rw [h1]; exact Nat.le_refl _⟩, h.2.1, h.2.2.1.narrow hBH, h.2.2.2⟩
  obtain ⟨⟨hx, hb, hml, hown, -, hFK, hFZ⟩, hN⟩ := C
  exact va_calli (va_runS (Ts := AW) ⟨hx, hb, hml, hown, hFK.use⟩ (hM H.size) ⟨callB_of 0 hFK.use (gi_1 w5 rfl) rfl hrc hrs (hFK.use _ w4) (hFK.use _ w1) hd hR, hFK.use _ w2⟩ ⟨HB.blind, hp⟩ rfl rfl hsz rfl (lv_room hW) hdg hf) hI.va.1 (fun q _ h => Nat.le_trans hBH h) (fun q h => Nat.le_trans hBH h) (fun r0 u t H1 locs1 ht _ hp hw hz hk hS => by subst hp; exact kk H1 locs1 (hI.far hk hS))
/-- the same, with no hall yet -/
theorem k_callB (C : LC p s m meth c D cy B cc nL) (hB : 1 < B ∧ B ≤ s.heap.size) (hS : va_S (fun q : Nat => B ≤ q) s.heap H locs) (hsz : ls.size = nL) (hM : Met l y [.code y bytes maxL ret] rm (va_Pc [] (HB D cy B)) (Q1 B) mc ms (fun q => B ≤ q)) (w1 : Cond.methodLink "RejudgeHallLaw" idx y ∈ AW) (w2 : Cond.static y ∈ AW) (w4 : Cond.initialized y.cls ∈ AW) (w5 : Cond.code y bytes maxL ret ∈ AW)
    (hd : plainM y 0) (hrc : rm.cells = mc) (hrs : rm.slots = ms) (hR : rooms R rm maxL) (hW : (rest.map fun v => v.category).sum ≤ 8) (hdg : decode cc pc = .ok (.invokestatic idx, 3)) (hf : cells + mc ≤ R.cells ∧ slots + ms ≤ R.slots)
    (kk : ∀ (H : Heap) (locs : List Loc), va_S (fun q : Nat => B ≤ q) s.heap H locs → W p l e R s m args below meth c H locs (cells + mc) (slots + ms) Q (F0 m (pc + 3) ls (iv 1 :: rest))) : W p l e R s m args below meth c H locs cells slots Q (F0 m pc ls rest) := by
  have hF0 := FS.empty (D := D) (cy := cy) hB hS
  have hp : ∀ U : State, U.heap = H → s.WarmedH U.vm → va_Pc [] (HB D cy B) [].toArray U := fun U h1 h2 => by
    have h := hF0.world C.1.2.2.2.2.2.1 C.1.2.2.2.2.2.2 h1 h2
    exact ⟨rfl, ⟨hB.1, h.1.2.2.2.2.2.1⟩, h.2.1, h.2.2, NC.same h2.alike C.2⟩
  obtain ⟨⟨hx, hb, hml, hown, -, hFK, hFZ⟩, hN⟩ := C
  exact va_calli (va_runS (Ts := AW) ⟨hx, hb, hml, hown, hFK.use⟩ hM ⟨callB_of 0 hFK.use (gi_1 w5 rfl) rfl hrc hrs (hFK.use _ w4) (hFK.use _ w1) hd hR, hFK.use _ w2⟩ ⟨HB.blind, hp⟩ rfl rfl hsz rfl (lv_room hW) hdg hf) hS (fun q _ h => h) (fun q h => h) (fun r0 u t H1 locs1 ht _ hp hw hz hk hS => by subst hp; exact kk H1 locs1 hS)
theorem z_ret (C : LC p s m meth c D cy B cc nL) (hI : HI D cy B s.heap H locs x S) (hr : meth.sig.returnType = some .boolean) (hdg : decode cc pc = .ok (.ireturn, 1)) (hmc : cells ≤ mc) (hms : slots ≤ ms) : W p l e R s m args below meth c H locs cells slots (MQ below (Q1 B) args s mc ms (fun q => B ≤ q)) (F0 m pc ls [iv 1]) := by
  obtain ⟨hx, hb, -, -, hlocks, hFK, hFZ⟩ := C.1
  exact W.widen hmc hms (W.zret hx hb hr rfl (fun t ht hW => ⟨⟨_, (), rfl, rfl, trivial⟩, hI.va.1.F ht⟩) (fun q hq => hI.va.1.2.2 q hq) hdg (hlocks := hlocks))
theorem hb_body0 {Qc : Array Value → State → Outcome → State → Prop} (hy : plainName y.cls = true) (ho : y.cls = "RejudgeHallLaw")
    (body : ∀ (p : Program) (e : Env) (s : State) (m : MethodId) (args : Array Value) (below : List Frame) (meth : Method) (c : Code) (ls : Array Slot), LC p s m meth c D cy B cc maxL → meth.sig.returnType = ret → (1 < B ∧ B ≤ s.heap.size) → lv_has ls maxL [] →
      W p l e rm s m args below meth c s.heap [] 0 0 (MQ below Qc args s mc ms (fun q => B ≤ q)) (F0 m 0 ls [])) : Met l y [.code y cc maxL ret] rm (va_Pc [] (HB D cy B)) Qc mc ms (fun q => B ≤ q) := by
  refine Met.ofW (cc := cc) (maxL := maxL) (ret := ret) hy rfl ?_
  intro p e s m args below meth c s₁ B0 hml hv
  obtain ⟨rfl, hB, hFK, hFZ, hN⟩ := hv
  have hl := lv_entry [] (n := maxL) (Nat.zero_le _)
  rw [lg_entry_eq]
  generalize (lg_sl [] ++ List.replicate (maxL - (lg_sl []).length) Slot.unset).toArray = ls at hl ⊢
  have hC := FC.ofB B0 hml hFK hFZ
  rw [ho] at hC
  exact body p e s m _ below meth c ls ⟨hC, hN⟩ B0.returns hB hl
end HBASE
