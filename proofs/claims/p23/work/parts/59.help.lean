/-! THE LAW'S SMALL METHODS -/
def ok0 (q : Out) (v : Int) : Bool := q.1 == 0 && q.2.1 == v
theorem of0 {q : Out} {v : Int} {S : Hl} (h : ok0 q v = true) (h2 : q.2.2 = S) : q = (0, v, S) := by
  simp only [ok0, Bool.and_eq_true, beq_iff_eq] at h
  obtain ⟨a, b, c⟩ := q
  obtain ⟨rfl, rfl⟩ := h
  subst h2
  rfl
theorem run_st {s : Hl} {a b : Int} : (callRun s a b).2.2 = s := by unfold callRun; split <;> rfl
theorem entry_st {s : Hl} {a b : Int} : (entryS s a b).2.2 = s := by unfold entryS; repeat' split
                                                                     all_goals rfl
theorem board_st {s : Hl} {a b d : Int} : (boardS s a b d).2.2 = s := by
  unfold boardS
  by_cases c1 : 0 ≤ a ∧ a < 8
  · rw [if_pos c1]
    by_cases c2 : 0 ≤ d ∧ d ≤ 4
    · rw [if_pos c2]
    · rw [if_neg c2]
  · rw [if_neg c1]
theorem answer_st {s : Hl} {a b d : Int} : (answerS s a b d).2.2 = s := by
  unfold answerS
  by_cases c1 : 0 ≤ a ∧ a < (s.np : Int)
  · rw [if_pos c1]
    by_cases c2 : 0 ≤ b ∧ b < ((s.pb a.toNat).nt : Int)
    · rw [if_pos c2]
      by_cases c3 : 0 ≤ d
      · rw [if_pos c3]
      · rw [if_neg c3]
    · rw [if_neg c2]
  · rw [if_neg c1]
theorem likeness_st {s : Hl} {a b : Int} : (likenessS s a b).2.2 = s := by unfold likenessS; split <;> rfl
theorem placeAnew_st {s : Hl} {a : Int} : (placeAnewS s a).2.2 = s := by unfold placeAnewS; split <;> rfl
def frzQ (s : Hl) (a : Int) : Out := ((freezeS s a).1, 1, (freezeS s a).2.2)
def hackZ (s : Hl) (a b : Int) : Out := ((hackS s a b).1, (if (hackS s a b).2.1 = 0 then 0 else 1), (hackS s a b).2.2)
def actQ (s : Hl) (w a b d : Int) : Out := if w = 0 then codeS s a b else if w = 1 then inputS s a else if w = 2 then callRun s a b else if w = 3 then problemS s a b else if w = 4 then testS s a b else if w = 5 then pointsS s a b d else if w = 6 then mendS s a b else if w = 7 then answerS s a b d else if w = 8 then enterS s a b else if w = 9 then passS s a else if w = 10 then rejudgeS s a else if w = 11 then entryS s a b else if w = 12 then likenessS s a b else if w = 13 then frzQ s a else if w = 14 then boardS s a (if b = 1 then 1 else 0) d else if w = 15 then placeAnewS s a else hackZ s a b
def outI (q : Out) : Int := if q.1 = 0 then q.2.1 else if q.1 = 3 then -7000001 else if q.1 = 1 then -7000002 else -7000003
theorem outI_0 {q : Out} (h : q.1 = 0) : outI q = q.2.1 := if_pos h
/-- instructions told by digits -/
def cdB : Nat → Hl → Int → Bool
  | 0, _, _ => true
  | n + 1, s, t => (codeS s (t % 10) 0).1 == 0 && cdB n (codeS s (t % 10) 0).2.2 (t / 10)
def cdV : Nat → Hl → Int → Int → Int
  | 0, _, _, z => z
  | n + 1, s, t, _ => cdV n (codeS s (t % 10) 0).2.2 (t / 10) (codeS s (t % 10) 0).2.1
def cdT : Nat → Hl → Int → Hl
  | 0, s, _ => s
  | n + 1, s, t => cdT n (codeS s (t % 10) 0).2.2 (t / 10)
def rnB (s : Hl) (lim f st m fi la : Int) : Bool := ok0 (callRun s lim 0) f && ok0 (callRun s lim 1) st && ok0 (callRun s lim 2) m && ok0 (callRun s lim 3) fi && ok0 (callRun s lim 10) la
def enB (s : Hl) (e a b d f : Int) : Bool := ok0 (entryS s e 0) a && ok0 (entryS s e 1) b && ok0 (entryS s e 2) d && ok0 (entryS s e 3) f
def bdB (s : Hl) (t z a b d f : Int) : Bool := ok0 (boardS s t z 0) a && ok0 (boardS s t z 1) b && ok0 (boardS s t z 2) d && ok0 (boardS s t z 3) f
theorem idv_nn {x y : Int} (hx : 0 ≤ x ∧ x < 2147483648) (hy : 0 < y ∧ y < 2147483648) : idv x y = x / y := by
  have rx : rg x := ⟨by omega, hx.2⟩
  have ry : rg y := ⟨by omega, hy.2⟩
  unfold idv
  rw [Int32.toInt_div_of_ne_right _ _ (fun h => by have := congrArg Int32.toInt h; rw [fl_tI ry] at this; have h2 : (-1 : Int32).toInt = -1 := rfl; omega), fl_tI rx, fl_tI ry, Int.tdiv_eq_ediv_of_nonneg hx.1]
theorem of_mod {x y : Int} (hx : 0 ≤ x ∧ x < 2147483648) (hy : 0 < y ∧ y < 2147483648) : Int32.ofInt x - Int32.ofInt x / Int32.ofInt y * Int32.ofInt y = Int32.ofInt (x % y) := by
  have e1 : Int32.ofInt x / Int32.ofInt y = Int32.ofInt (x / y) := by
    rw [← idv_nn hx hy]
    unfold idv
    rw [of_toInt]
  have h0 : 0 ≤ x / y := Int.ediv_nonneg hx.1 (by omega)
  have h1 : x / y * y ≤ x := Int.ediv_mul_le x (by omega)
  have h2 : 0 ≤ x / y * y := Int.mul_nonneg h0 (by omega)
  rw [e1, of_mul, of_sub, wr_id (x := x / y * y) (by omega) (by omega), wr_id (by omega) (by omega), Int.emod_def, Int.mul_comm y]
section HHelp
variable {p : Program} {l : Launch} {e : Env} {R : Room} {s : State} {m : MethodId} {args : Array Value} {below : List Frame} {meth : Method} {c : Code} {H : Heap} {locs : List Loc} {cells slots mc ms : Nat} {Q : State → Prop}
variable {D : va_G} {cy : Nat → ClassId} {B : Nat} {cc : ByteArray} {nL pc : Nat} {ls : Array Slot} {rest st0 As : List Value} {x : Nat} {S S' : Hl} {v : Int}
variable {y : MethodName} {bytes : ByteArray} {maxL idx n : Nat} {ret : Option FieldType} {rm : Room} {hh : List (Nat × Nat × Nat × Nat)}
theorem h_irem {x y z : Int} (C0 : FC D cy B p s m meth c "RejudgeHallLaw" cc nL) (hx : 0 ≤ x ∧ x < 2147483648) (hy : 0 < y ∧ y < 2147483648) (hz : x % y = z) (hdg : decode cc pc = .ok (.irem, 1)) (k : W p l e R s m args below meth c H locs cells slots Q (F0 m (pc + 1) ls (iv z :: rest))) : W p l e R s m args below meth c H locs cells slots Q (F0 m pc ls (iv y :: iv x :: rest)) := by
  subst hz
  exact lv_irem C0.1 C0.2.1 hdg (fun h => by have := (of_eq ⟨by omega, hy.2⟩ ⟨by decide, by decide⟩ (y := 0)).mp (h.trans rfl); omega) (by rw [of_mod hx hy]; exact k)
theorem h_idiv {x y z : Int} (C0 : FC D cy B p s m meth c "RejudgeHallLaw" cc nL) (hx : 0 ≤ x ∧ x < 2147483648) (hy : 0 < y ∧ y < 2147483648) (hz : x / y = z) (hdg : decode cc pc = .ok (.idiv, 1)) (k : W p l e R s m args below meth c H locs cells slots Q (F0 m (pc + 1) ls (iv z :: rest))) : W p l e R s m args below meth c H locs cells slots Q (F0 m pc ls (iv y :: iv x :: rest)) := by
  subst hz
  refine fl_idiv C0 ⟨by omega, hy.2⟩ (by omega) hdg ?_
  rw [idv_nn hx hy]
  exact k
theorem h_iadd {x y z : Int} (C0 : FC D cy B p s m meth c "RejudgeHallLaw" cc nL) (hz : wr (x + y) = z) (hdg : decode cc pc = .ok (.iadd, 1)) (k : W p l e R s m args below meth c H locs cells slots Q (F0 m (pc + 1) ls (iv z :: rest))) : W p l e R s m args below meth c H locs cells slots Q (F0 m pc ls (iv y :: iv x :: rest)) := by
  subst hz
  exact fl_iadd C0 hdg k
theorem h_isub {x y z : Int} (C0 : FC D cy B p s m meth c "RejudgeHallLaw" cc nL) (hz : wr (x - y) = z) (hdg : decode cc pc = .ok (.isub, 1)) (k : W p l e R s m args below meth c H locs cells slots Q (F0 m (pc + 1) ls (iv z :: rest))) : W p l e R s m args below meth c H locs cells slots Q (F0 m pc ls (iv y :: iv x :: rest)) := by
  subst hz
  exact fl_isub C0 hdg k
theorem h_imul {x y z : Int} (C0 : FC D cy B p s m meth c "RejudgeHallLaw" cc nL) (hz : wr (x * y) = z) (hdg : decode cc pc = .ok (.imul, 1)) (k : W p l e R s m args below meth c H locs cells slots Q (F0 m (pc + 1) ls (iv z :: rest))) : W p l e R s m args below meth c H locs cells slots Q (F0 m pc ls (iv y :: iv x :: rest)) := by
  subst hz
  exact fl_imul C0 hdg k
theorem h_ineg {x z : Int} (C0 : FC D cy B p s m meth c "RejudgeHallLaw" cc nL) (hz : wr (-x) = z) (hdg : decode cc pc = .ok (.ineg, 1)) (k : W p l e R s m args below meth c H locs cells slots Q (F0 m (pc + 1) ls (iv z :: rest))) : W p l e R s m args below meth c H locs cells slots Q (F0 m pc ls (iv x :: rest)) := by
  subst hz
  exact fl_ineg C0 hdg k
/-- a method of the law, from its entry -/
theorem hb_body {av : List Value} {Qc : Array Value → State → Outcome → State → Prop} (hy : plainName y.cls = true) (ho : y.cls = "RejudgeHallLaw") (hn : (lg_sl av).length ≤ maxL)
    (body : ∀ (p : Program) (e : Env) (s : State) (m : MethodId) (args : Array Value) (below : List Frame) (meth : Method) (c : Code) (ls : Array Slot), LC p s m meth c D cy B cc maxL → meth.sig.returnType = ret → HI D cy B s.heap s.heap [] x S → lv_has ls maxL (lv_args 0 av) →
      W p l e rm s m args below meth c s.heap [] 0 0 (MQ below Qc args s mc ms (fun q => B ≤ q)) (F0 m 0 ls [])) : Met l y [.code y cc maxL ret] rm (va_Pc av (HW D cy B x S)) Qc mc ms (fun q => B ≤ q) := by
  refine Met.ofW (cc := cc) (maxL := maxL) (ret := ret) hy rfl ?_
  intro p e s m args below meth c s₁ B0 hml hv
  obtain ⟨rfl, hI, hFK, hFZ, hN⟩ := hv
  have hl := lv_entry av (n := maxL) hn
  rw [lg_entry_eq]
  generalize (lg_sl av ++ List.replicate (maxL - (lg_sl av).length) Slot.unset).toArray = ls at hl ⊢
  have hC := FC.ofB B0 hml hFK hFZ
  rw [ho] at hC
  exact body p e s m _ below meth c ls ⟨hC, hN⟩ B0.returns hI hl
theorem hb_bodyH {av : List Value} {Qc : Array Value → State → Outcome → State → Prop} (hy : plainName y.cls = true) (ho : y.cls = "RejudgeHallLaw") (hn : (lg_sl av).length ≤ maxL)
    (body : ∀ (p : Program) (e : Env) (s : State) (m : MethodId) (args : Array Value) (below : List Frame) (meth : Method) (c : Code) (ls : Array Slot), LC p s m meth c D cy B cc maxL → meth.sig.returnType = ret → c.exceptionTable.toList = tableOf hh → HI D cy B s.heap s.heap [] x S → lv_has ls maxL (lv_args 0 av) →
      W p l e rm s m args below meth c s.heap [] 0 0 (MQ below Qc args s mc ms (fun q => B ≤ q)) (F0 m 0 ls [])) : Met l y [.codeWith y cc maxL ret hh] rm (va_Pc av (HW D cy B x S)) Qc mc ms (fun q => B ≤ q) := by
  refine met_ofWH (cc := cc) (maxL := maxL) (ret := ret) hy rfl ?_
  intro p e s m args below meth c s₁ B0 hml ht hv
  obtain ⟨rfl, hI, hFK, hFZ, hN⟩ := hv
  have hl := lv_entry av (n := maxL) hn
  rw [lg_entry_eq]
  generalize (lg_sl av ++ List.replicate (maxL - (lg_sl av).length) Slot.unset).toArray = ls at hl ⊢
  have hC := FC.ofB B0 hml hFK hFZ
  rw [ho] at hC
  exact body p e s m _ below meth c ls ⟨hC, hN⟩ B0.returns ht hI hl
theorem hb_bodyX {av : List Value} {Qc : Array Value → State → Outcome → State → Prop} {XC : String → State → State → Prop} (hy : plainName y.cls = true) (ho : y.cls = "RejudgeHallLaw") (hn : (lg_sl av).length ≤ maxL)
    (body : ∀ (p : Program) (e : Env) (s : State) (m : MethodId) (args : Array Value) (below : List Frame) (meth : Method) (c : Code) (ls : Array Slot), LC p s m meth c D cy B cc maxL → meth.sig.returnType = ret → (∀ x ∈ c.exceptionTable.toList, False) → HI D cy B s.heap s.heap [] x S → lv_has ls maxL (lv_args 0 av) →
      W p l e rm s m args below meth c s.heap [] 0 0 (vx_MQ below Qc XC args s mc ms (fun q => B ≤ q)) (F0 m 0 ls [])) : vx_Met l y [.code y cc maxL ret] rm (va_Pc av (HW D cy B x S)) Qc XC mc ms (fun q => B ≤ q) := by
  refine vx_ofW (cc := cc) (maxL := maxL) (ret := ret) hy rfl ?_
  intro p e s m args below meth c s₁ B0 hml ht hv
  obtain ⟨rfl, hI, hFK, hFZ, hN⟩ := hv
  have hl := lv_entry av (n := maxL) hn
  rw [lg_entry_eq]
  generalize (lg_sl av ++ List.replicate (maxL - (lg_sl av).length) Slot.unset).toArray = ls at hl ⊢
  have hC := FC.ofB B0 hml hFK hFZ
  rw [ho] at hC
  exact body p e s m _ below meth c ls ⟨hC, hN⟩ B0.returns ht hI hl
abbrev HQX (D : va_G) (cy : Nat → ClassId) (B : Nat) (x : Nat) (q : Out) : Array Value → State → Outcome → State → Prop := va_Qi (fun (r : Int32) (_ : Unit) => q.1 = 0 ∧ r = Int32.ofInt q.2.1 ∧ rg q.2.1) (fun _ t => HW D cy B x q.2.2 t) (fun q => B ≤ q)
abbrev HXX (D : va_G) (cy : Nat → ClassId) (B : Nat) (x : Nat) (q : Out) : String → State → State → Prop := vx_X (fun (_ : Unit) => q.1 ≠ 0) (fun E _ t => E = exn q.1 ∧ HI D cy B t.heap t.heap [] x q.2.2) (fun q => B ≤ q)
theorem HI.thrown (hI : HI D cy B s.heap H locs x S) {t : State} (h : t.heap = H) : HI D cy B t.heap t.heap [] x S ∧ va_F (fun q => B ≤ q) s t := by
  obtain ⟨tg, L, K, P, J, I, hF, h2⟩ := hI
  obtain ⟨g1, g2⟩ := hF.thrown (t := t) (by rw [h]; exact Nat.le_refl _) (fun q _ => by rw [h])
  exact ⟨⟨tg, L, K, P, J, I, g1, h2⟩, g2⟩
abbrev rm_L_freeze : Room := { frames := 8, cells := 1, slots := 6, locals := 160 }
theorem pm_L_freeze : plainM yL_freeze 2 := by decide +kernel
set_option maxRecDepth 100000 in
set_option maxHeartbeats 4000000 in
theorem d_freeze (hst : l.stackTraces = false) {a : Int} (ra : rg a) : vx_Met l yL_freeze [.code yL_freeze cL_freeze 2 (some .int)] rm_L_freeze (va_Pc [.ref x, iv a] (HW D cy B x S)) (HQX D cy B x (frzQ S a)) (HXX D cy B x (frzQ S a)) 1 6 (fun q => B ≤ q) := by
  refine hb_bodyX (by decide) rfl (Nat.le_of_ble_eq_true rfl) ?_
  intro p e s m args below meth c ls C hr hx0 hI hl
  have hl : lv_has ls 2 [(0, .ref x), (1, iv a)] := hl
  have hI0 := hI
  obtain ⟨tg, L, K, P, J, I, hF, hWT, hH, hok, hTL, kx0⟩ := hI
  obtain ⟨I1, e1, e3, e4⟩ := h_freeze (K := K) (v := a) hH
  refine lv_aload_n C.1.1 C.1.2.1 dL_freeze_0 rfl (lv_at hl 0 rfl) ?_
  refine lv_iload_n C.1.1 C.1.2.1 dL_freeze_1 rfl (lv_at hl 1 rfl) ?_
  refine fl_xv hF (fl_runVX (As := [iv a]) (rest := []) C.1 hF hl.1 ck_8 kx0 rfl (c_X7_freeze l hst D cy B L K P J hWT I x a kx0 ra e1) aw_786 aw_787 aw_788 aw_45 aw_789 rfl rfl pm_X7_freeze rfl rfl ⟨(Nat.le_of_ble_eq_true rfl), (Nat.le_of_ble_eq_true rfl)⟩ rfl (Nat.le_of_ble_eq_true rfl) dL_freeze_2 ⟨(Nat.le_of_ble_eq_true rfl), (Nat.le_of_ble_eq_true rfl)⟩) (fun c1 H locs hF1 => ?_) (fun c1 H locs q ce hF1 e5 e6 e7 => ?_)
  · have hI1 : HI D cy B s.heap H locs x (frzQ S a).2.2 := ⟨tg, L, K, P, J, I1, hF1, hWT, e3, freezeS_ok hok, hTL, kx0⟩
    refine fl_iconst C.1 dL_freeze_5 ?_
    obtain ⟨hx, hb, -, -, hlocks, hFK, hFZ⟩ := C.1
    exact W.widen (Nat.le_of_ble_eq_true rfl) (Nat.le_of_ble_eq_true rfl) (vx_ret (W.iret hx hb hr (fun t ht hW => ⟨⟨_, (), rfl, ⟨c1, rfl, rgk 1 rfl⟩, hI1.world C ht hW⟩, hI1.va.1.F ht⟩) (fun q hq => hI1.va.1.2.2 q hq) dL_freeze_6 (hlocks := hlocks)))
  · have hI1 : HI D cy B s.heap H locs x (frzQ S a).2.2 := ⟨tg, L, K, P, J, I1, hF1, hWT, e3, freezeS_ok hok, hTL, kx0⟩
    refine vx_out (fun x hx => absurd hx (fun h => hx0 x h)) C.1.2.2.2.2.1 e5 e6 e7 ?_ (fun z hz => hI1.va.1.2.2 z hz) (Nat.le_of_ble_eq_true rfl) (Nat.le_of_ble_eq_true rfl)
    intro t ht _
    obtain ⟨g1, g2⟩ := hI1.thrown ht
    exact ⟨(), c1, ⟨rfl, g1⟩, g2⟩
theorem k_frz {a : Int} (hst : l.stackTraces = false) (C : LC p s m meth c D cy B cc nL) (hR : okR R) (hI : HI D cy B s.heap H locs x S) (hsz : ls.size = nL) (ra : rg a) (hW : (rest.map fun v => v.category).sum ≤ 8) (hf : cells + 1 ≤ R.cells ∧ slots + 6 ≤ R.slots) (hdg : decode cc pc = .ok (.invokestatic 55, 3))
    (kk : (frzQ S a).1 = 0 → ∀ (H : Heap) (locs : List Loc), HI D cy B s.heap H locs x (frzQ S a).2.2 → W p l e R s m args below meth c H locs (cells + 1) (slots + 6) Q (F0 m (pc + 3) ls (iv 1 :: rest)))
    (kx : (frzQ S a).1 ≠ 0 → ∀ (H : Heap) (locs : List Loc) (q : Addr) (ce : Cell), HI D cy B s.heap H locs x (frzQ S a).2.2 → H[q]? = some ce → ce.vm = .none → s.vm.findClass (exn (frzQ S a).1) = some ce.cls → vx_W p l e R s m args below meth c H locs (cells + 1) (slots + 6) Q (F0 m pc ls rest) q) : W p l e R s m args below meth c H locs cells slots Q (F0 m pc ls (iv a :: .ref x :: rest)) := by
  have hp := hI.pre C [.ref x, iv a]
  obtain ⟨⟨hx, hb, hml, hown, -, hFK, hFZ⟩, hN⟩ := C
  exact vx_calli (vx_runS (Ts := AW) ⟨hx, hb, hml, hown, hFK.use⟩ (d_freeze (l := l) (D := D) (cy := cy) (B := B) (x := x) (S := S) hst ra) ⟨callB_of 2 hFK.use (gi_1 aw_785 rfl) rfl rfl rfl (hFK.use _ aw_44) (hFK.use _ aw_783) pm_L_freeze ⟨Nat.le_trans (Nat.le_of_ble_eq_true rfl) hR.1, Nat.le_trans (Nat.le_of_ble_eq_true rfl) hR.2⟩, hFK.use _ aw_784⟩ ⟨HW.blind, hp⟩ rfl rfl hsz rfl (lv_room hW) hdg hf) hI.va.1 (fun _ _ h => h) (fun _ h => h) (fun _ _ h => h) (fun E ce q9 u t H1 locs1 ht _ hp hw _ _ hS e1 e2 e3 => by obtain ⟨rfl, hw⟩ := hw; exact kx hp H1 locs1 q9 ce (hI.after ht hS hw) e1 e2 e3) (fun r0 u t H1 locs1 ht _ hp hw _ _ hS => by obtain ⟨h0, rfl, hp⟩ := hp; exact kk h0 H1 locs1 (hI.after ht hS hw.1))
theorem co3 {z : Nat} (h0 : z ≠ 0) (h : z = 0 ∨ z = 1 ∨ z = 2 ∨ z = 3) : z = 1 ∨ z = 2 ∨ z = 3 := by omega
theorem act_catch {w a b d : Int} {q : Addr} {ce : Cell} {k : Nat} (C : LC p s m meth c D cy B cL_act 6) (hr : meth.sig.returnType = some .int) (ht : c.exceptionTable.toList = tableOf [(0, 257, 258, 71), (0, 257, 263, 74), (0, 257, 268, 77)]) (hI : HI D cy B s.heap H locs x S) (hl : lv_has ls 6 [(0, .ref x), (1, iv w), (2, iv a), (3, iv b), (4, iv d)]) (hk : k = 1 ∨ k = 2 ∨ k = 3) (hpc : 0 ≤ pc ∧ pc < 257) (hv : v = if k = 3 then -7000001 else if k = 1 then -7000002 else -7000003) (e1 : H[q]? = some ce) (e2 : ce.vm = .none) (e3 : s.vm.findClass (exn k) = some ce.cls) (hmc : cells ≤ mc) (hms : slots ≤ ms) :
    vx_W p l e R s m args below meth c H locs cells slots (MQ below (HQ D cy B x v S) args s mc ms (fun q => B ≤ q)) (F0 m pc ls rest) q := by
  have cv : ∀ h t : Nat, covers ⟨0, 257, h, t⟩ pc = true := fun h t => by simp [covers]; omega
  rcases hk with rfl | rfl | rfl
  · refine fl_catch (k := 1) (pre := [⟨0, 257, 258, 71⟩]) (x := ⟨0, 257, 263, 74⟩) (suf := [⟨0, 257, 268, 77⟩]) C.1 C.2 (ht.trans rfl) (fun z hz => by rw [List.mem_singleton.mp hz]; exact ⟨3, by decide, hd_3⟩) (cv _ _) hd_1 e1 e2 e3 ?_
    refine lv_astore (lv' := [(5, .ref q), (0, .ref x), (1, iv w), (2, iv a), (3, iv b), (4, iv d)]) C.1.1 C.1.2.1 dL_act_263 hl (by decide) rfl (fun ls hl => ?_)
    refine fl_ldc (n := -7000002) C.1 aw_802 rfl dL_act_265 ?_
    rw [show v = -7000002 from hv]
    exact k_iret C hI hr (rgk (-7000002) rfl) dL_act_267 hmc hms
  · refine fl_catch (k := 2) (pre := [⟨0, 257, 258, 71⟩, ⟨0, 257, 263, 74⟩]) (x := ⟨0, 257, 268, 77⟩) (suf := []) C.1 C.2 (ht.trans rfl) (fun z hz => by rcases List.mem_cons.mp hz with rfl | hz; exact ⟨3, by decide, hd_3⟩; rw [List.mem_singleton.mp hz]; exact ⟨1, by decide, hd_1⟩) (cv _ _) hd_2 e1 e2 e3 ?_
    refine lv_astore (lv' := [(5, .ref q), (0, .ref x), (1, iv w), (2, iv a), (3, iv b), (4, iv d)]) C.1.1 C.1.2.1 dL_act_268 hl (by decide) rfl (fun ls hl => ?_)
    refine fl_ldc (n := -7000003) C.1 aw_803 rfl dL_act_270 ?_
    rw [show v = -7000003 from hv]
    exact k_iret C hI hr (rgk (-7000003) rfl) dL_act_272 hmc hms
  · refine fl_catch (k := 3) (pre := []) (x := ⟨0, 257, 258, 71⟩) (suf := [⟨0, 257, 263, 74⟩, ⟨0, 257, 268, 77⟩]) C.1 C.2 (ht.trans rfl) (fun z hz => nomatch hz) (cv _ _) hd_3 e1 e2 e3 ?_
    refine lv_astore (lv' := [(5, .ref q), (0, .ref x), (1, iv w), (2, iv a), (3, iv b), (4, iv d)]) C.1.1 C.1.2.1 dL_act_258 hl (by decide) rfl (fun ls hl => ?_)
    refine fl_ldc (n := -7000001) C.1 aw_801 rfl dL_act_260 ?_
    rw [show v = -7000001 from hv]
    exact k_iret C hI hr (rgk (-7000001) rfl) dL_act_262 hmc hms
abbrev rm_L_act : Room := { frames := 10, cells := 9, slots := 2061, locals := 280 }
theorem pm_L_act : plainM yL_act 5 := by decide +kernel
set_option maxRecDepth 100000 in
set_option maxHeartbeats 4000000 in
theorem act_b0 {w a b d : Int} (hst : l.stackTraces = false) (C : LC p s m meth c D cy B cL_act 6) (hr : meth.sig.returnType = some .int) (ht : c.exceptionTable.toList = tableOf [(0, 257, 258, 71), (0, 257, 263, 74), (0, 257, 268, 77)]) (hI : HI D cy B s.heap H locs x S) (hl : lv_has ls 6 [(0, .ref x), (1, iv w), (2, iv a), (3, iv b), (4, iv d)]) (ra : rg a) (rb : rg b) (rd : rg d) (h0 : w = 0) : W p l e rm_L_act s m args below meth c H locs 0 0 (MQ below (HQ D cy B x (outI (actQ S w a b d)) (actQ S w a b d).2.2) args s 9 2061 (fun q => B ≤ q)) (F0 m 4 ls []) := by
  subst h0
  have eq : actQ S 0 a b d = codeS S a b := rfl
  rw [eq]
  refine lv_aload_n C.1.1 C.1.2.1 dL_act_4 rfl (lv_at hl 0 rfl) ?_
  refine lv_iload_n C.1.1 C.1.2.1 dL_act_5 rfl (lv_at hl 2 rfl) ?_
  refine lv_iload_n C.1.1 C.1.2.1 dL_act_6 rfl (lv_at hl 3 rfl) ?_
  refine k_code hst C (by exact ⟨(Nat.le_of_ble_eq_true rfl), (Nat.le_of_ble_eq_true rfl)⟩) hI hl.1 ra rb (Nat.le_of_ble_eq_true rfl) ⟨(Nat.le_of_ble_eq_true rfl), (Nat.le_of_ble_eq_true rfl)⟩ dL_act_7 (fun c1 H locs hI2 rv => ?_) (fun c1 H locs q ce hI2 e1 e2 e3 => ?_)
  · have eo : outI (codeS S a b) = _ := outI_0 c1
    rw [eo]
    refine fl_goto (tgt := 257) C.1 dL_act_10 (by decide) ?_
    exact k_iret C hI2 hr rv dL_act_257 (Nat.le_of_ble_eq_true rfl) (Nat.le_of_ble_eq_true rfl)
  · have hc : (codeS S a b).1 = 0 ∨ (codeS S a b).1 = 1 ∨ (codeS S a b).1 = 2 ∨ (codeS S a b).1 = 3 := by
      have h9 := codeS_co (s := S) (w := a) (v := b)
      omega
    exact act_catch C hr ht hI2 hl (co3 c1 hc) ⟨(Nat.le_of_ble_eq_true rfl), (Nat.le_of_ble_eq_true rfl)⟩ (if_neg c1) e1 e2 e3 (Nat.le_of_ble_eq_true rfl) (Nat.le_of_ble_eq_true rfl)
set_option maxRecDepth 100000 in
set_option maxHeartbeats 4000000 in
theorem act_b1 {w a b d : Int} (hst : l.stackTraces = false) (C : LC p s m meth c D cy B cL_act 6) (hr : meth.sig.returnType = some .int) (ht : c.exceptionTable.toList = tableOf [(0, 257, 258, 71), (0, 257, 263, 74), (0, 257, 268, 77)]) (hI : HI D cy B s.heap H locs x S) (hl : lv_has ls 6 [(0, .ref x), (1, iv w), (2, iv a), (3, iv b), (4, iv d)]) (ra : rg a) (rb : rg b) (rd : rg d) (h0 : w = 1) : W p l e rm_L_act s m args below meth c H locs 0 0 (MQ below (HQ D cy B x (outI (actQ S w a b d)) (actQ S w a b d).2.2) args s 9 2061 (fun q => B ≤ q)) (F0 m 18 ls []) := by
  subst h0
  have eq : actQ S 1 a b d = inputS S a := rfl
  rw [eq]
  refine lv_aload_n C.1.1 C.1.2.1 dL_act_18 rfl (lv_at hl 0 rfl) ?_
  refine lv_iload_n C.1.1 C.1.2.1 dL_act_19 rfl (lv_at hl 2 rfl) ?_
  refine k_input hst C (by exact ⟨(Nat.le_of_ble_eq_true rfl), (Nat.le_of_ble_eq_true rfl)⟩) hI hl.1 ra (Nat.le_of_ble_eq_true rfl) ⟨(Nat.le_of_ble_eq_true rfl), (Nat.le_of_ble_eq_true rfl)⟩ dL_act_20 (fun c1 H locs hI2 rv => ?_) (fun c1 H locs q ce hI2 e1 e2 e3 => ?_)
  · have eo : outI (inputS S a) = _ := outI_0 c1
    rw [eo]
    refine fl_goto (tgt := 257) C.1 dL_act_23 (by decide) ?_
    exact k_iret C hI2 hr rv dL_act_257 (Nat.le_of_ble_eq_true rfl) (Nat.le_of_ble_eq_true rfl)
  · have hc : (inputS S a).1 = 0 ∨ (inputS S a).1 = 1 ∨ (inputS S a).1 = 2 ∨ (inputS S a).1 = 3 := by
      have h9 := inputS_co (s := S) (v := a)
      omega
    exact act_catch C hr ht hI2 hl (co3 c1 hc) ⟨(Nat.le_of_ble_eq_true rfl), (Nat.le_of_ble_eq_true rfl)⟩ (if_neg c1) e1 e2 e3 (Nat.le_of_ble_eq_true rfl) (Nat.le_of_ble_eq_true rfl)
set_option maxRecDepth 100000 in
set_option maxHeartbeats 4000000 in
theorem act_b2 {w a b d : Int} (hst : l.stackTraces = false) (C : LC p s m meth c D cy B cL_act 6) (hr : meth.sig.returnType = some .int) (ht : c.exceptionTable.toList = tableOf [(0, 257, 258, 71), (0, 257, 263, 74), (0, 257, 268, 77)]) (hI : HI D cy B s.heap H locs x S) (hl : lv_has ls 6 [(0, .ref x), (1, iv w), (2, iv a), (3, iv b), (4, iv d)]) (ra : rg a) (rb : rg b) (rd : rg d) (h0 : w = 2) : W p l e rm_L_act s m args below meth c H locs 0 0 (MQ below (HQ D cy B x (outI (actQ S w a b d)) (actQ S w a b d).2.2) args s 9 2061 (fun q => B ≤ q)) (F0 m 31 ls []) := by
  subst h0
  have eq : actQ S 2 a b d = callRun S a b := rfl
  rw [eq]
  refine lv_aload_n C.1.1 C.1.2.1 dL_act_31 rfl (lv_at hl 0 rfl) ?_
  refine lv_iload_n C.1.1 C.1.2.1 dL_act_32 rfl (lv_at hl 2 rfl) ?_
  refine lv_iload_n C.1.1 C.1.2.1 dL_act_33 rfl (lv_at hl 3 rfl) ?_
  refine k_run hst C (by exact ⟨(Nat.le_of_ble_eq_true rfl), (Nat.le_of_ble_eq_true rfl)⟩) hI hl.1 ra rb (Nat.le_of_ble_eq_true rfl) ⟨(Nat.le_of_ble_eq_true rfl), (Nat.le_of_ble_eq_true rfl)⟩ dL_act_34 (fun c1 H locs hI2 rv => ?_) (fun c1 H locs q ce hI2 e1 e2 e3 => ?_)
  · have eo : outI (callRun S a b) = _ := outI_0 c1
    rw [eo]
    refine fl_goto (tgt := 257) C.1 dL_act_37 (by decide) ?_
    exact k_iret C hI2 hr rv dL_act_257 (Nat.le_of_ble_eq_true rfl) (Nat.le_of_ble_eq_true rfl)
  · have hc : (callRun S a b).1 = 0 ∨ (callRun S a b).1 = 1 ∨ (callRun S a b).1 = 2 ∨ (callRun S a b).1 = 3 := by
      have h9 := callRun_co (s := S) (w := a) (v := b)
      omega
    exact act_catch C hr ht hI2 hl (co3 c1 hc) ⟨(Nat.le_of_ble_eq_true rfl), (Nat.le_of_ble_eq_true rfl)⟩ (if_neg c1) e1 e2 e3 (Nat.le_of_ble_eq_true rfl) (Nat.le_of_ble_eq_true rfl)
set_option maxRecDepth 100000 in
set_option maxHeartbeats 4000000 in
theorem act_b3 {w a b d : Int} (hst : l.stackTraces = false) (C : LC p s m meth c D cy B cL_act 6) (hr : meth.sig.returnType = some .int) (ht : c.exceptionTable.toList = tableOf [(0, 257, 258, 71), (0, 257, 263, 74), (0, 257, 268, 77)]) (hI : HI D cy B s.heap H locs x S) (hl : lv_has ls 6 [(0, .ref x), (1, iv w), (2, iv a), (3, iv b), (4, iv d)]) (ra : rg a) (rb : rg b) (rd : rg d) (h0 : w = 3) : W p l e rm_L_act s m args below meth c H locs 0 0 (MQ below (HQ D cy B x (outI (actQ S w a b d)) (actQ S w a b d).2.2) args s 9 2061 (fun q => B ≤ q)) (F0 m 45 ls []) := by
  subst h0
  have eq : actQ S 3 a b d = problemS S a b := rfl
  rw [eq]
  refine lv_aload_n C.1.1 C.1.2.1 dL_act_45 rfl (lv_at hl 0 rfl) ?_
  refine lv_iload_n C.1.1 C.1.2.1 dL_act_46 rfl (lv_at hl 2 rfl) ?_
  refine lv_iload_n C.1.1 C.1.2.1 dL_act_47 rfl (lv_at hl 3 rfl) ?_
  refine k_problem hst C (by exact ⟨(Nat.le_of_ble_eq_true rfl), (Nat.le_of_ble_eq_true rfl)⟩) hI hl.1 ra rb (Nat.le_of_ble_eq_true rfl) ⟨(Nat.le_of_ble_eq_true rfl), (Nat.le_of_ble_eq_true rfl)⟩ dL_act_48 (fun c1 H locs hI2 rv => ?_) (fun c1 H locs q ce hI2 e1 e2 e3 => ?_)
  · have eo : outI (problemS S a b) = _ := outI_0 c1
    rw [eo]
    refine fl_goto (tgt := 257) C.1 dL_act_51 (by decide) ?_
    exact k_iret C hI2 hr rv dL_act_257 (Nat.le_of_ble_eq_true rfl) (Nat.le_of_ble_eq_true rfl)
  · have hc : (problemS S a b).1 = 0 ∨ (problemS S a b).1 = 1 ∨ (problemS S a b).1 = 2 ∨ (problemS S a b).1 = 3 := by
      have h9 := problemS_co (s := S) (w := a) (v := b)
      omega
    exact act_catch C hr ht hI2 hl (co3 c1 hc) ⟨(Nat.le_of_ble_eq_true rfl), (Nat.le_of_ble_eq_true rfl)⟩ (if_neg c1) e1 e2 e3 (Nat.le_of_ble_eq_true rfl) (Nat.le_of_ble_eq_true rfl)
set_option maxRecDepth 100000 in
set_option maxHeartbeats 4000000 in
theorem act_b4 {w a b d : Int} (hst : l.stackTraces = false) (C : LC p s m meth c D cy B cL_act 6) (hr : meth.sig.returnType = some .int) (ht : c.exceptionTable.toList = tableOf [(0, 257, 258, 71), (0, 257, 263, 74), (0, 257, 268, 77)]) (hI : HI D cy B s.heap H locs x S) (hl : lv_has ls 6 [(0, .ref x), (1, iv w), (2, iv a), (3, iv b), (4, iv d)]) (ra : rg a) (rb : rg b) (rd : rg d) (h0 : w = 4) : W p l e rm_L_act s m args below meth c H locs 0 0 (MQ below (HQ D cy B x (outI (actQ S w a b d)) (actQ S w a b d).2.2) args s 9 2061 (fun q => B ≤ q)) (F0 m 59 ls []) := by
  subst h0
  have eq : actQ S 4 a b d = testS S a b := rfl
  rw [eq]
  refine lv_aload_n C.1.1 C.1.2.1 dL_act_59 rfl (lv_at hl 0 rfl) ?_
  refine lv_iload_n C.1.1 C.1.2.1 dL_act_60 rfl (lv_at hl 2 rfl) ?_
  refine lv_iload_n C.1.1 C.1.2.1 dL_act_61 rfl (lv_at hl 3 rfl) ?_
  refine k_test hst C (by exact ⟨(Nat.le_of_ble_eq_true rfl), (Nat.le_of_ble_eq_true rfl)⟩) hI hl.1 ra rb (Nat.le_of_ble_eq_true rfl) ⟨(Nat.le_of_ble_eq_true rfl), (Nat.le_of_ble_eq_true rfl)⟩ dL_act_62 (fun c1 H locs hI2 rv => ?_) (fun c1 H locs q ce hI2 e1 e2 e3 => ?_)
  · have eo : outI (testS S a b) = _ := outI_0 c1
    rw [eo]
    refine fl_goto (tgt := 257) C.1 dL_act_65 (by decide) ?_
    exact k_iret C hI2 hr rv dL_act_257 (Nat.le_of_ble_eq_true rfl) (Nat.le_of_ble_eq_true rfl)
  · have hc : (testS S a b).1 = 0 ∨ (testS S a b).1 = 1 ∨ (testS S a b).1 = 2 ∨ (testS S a b).1 = 3 := by
      have h9 := testS_co (s := S) (w := a) (v := b)
      omega
    exact act_catch C hr ht hI2 hl (co3 c1 hc) ⟨(Nat.le_of_ble_eq_true rfl), (Nat.le_of_ble_eq_true rfl)⟩ (if_neg c1) e1 e2 e3 (Nat.le_of_ble_eq_true rfl) (Nat.le_of_ble_eq_true rfl)
set_option maxRecDepth 100000 in
set_option maxHeartbeats 4000000 in
theorem act_b5 {w a b d : Int} (hst : l.stackTraces = false) (C : LC p s m meth c D cy B cL_act 6) (hr : meth.sig.returnType = some .int) (ht : c.exceptionTable.toList = tableOf [(0, 257, 258, 71), (0, 257, 263, 74), (0, 257, 268, 77)]) (hI : HI D cy B s.heap H locs x S) (hl : lv_has ls 6 [(0, .ref x), (1, iv w), (2, iv a), (3, iv b), (4, iv d)]) (ra : rg a) (rb : rg b) (rd : rg d) (h0 : w = 5) : W p l e rm_L_act s m args below meth c H locs 0 0 (MQ below (HQ D cy B x (outI (actQ S w a b d)) (actQ S w a b d).2.2) args s 9 2061 (fun q => B ≤ q)) (F0 m 73 ls []) := by
  subst h0
  have eq : actQ S 5 a b d = pointsS S a b d := rfl
  rw [eq]
  refine lv_aload_n C.1.1 C.1.2.1 dL_act_73 rfl (lv_at hl 0 rfl) ?_
  refine lv_iload_n C.1.1 C.1.2.1 dL_act_74 rfl (lv_at hl 2 rfl) ?_
  refine lv_iload_n C.1.1 C.1.2.1 dL_act_75 rfl (lv_at hl 3 rfl) ?_
  refine lv_iload C.1.1 C.1.2.1 dL_act_76 (lv_at hl 4 rfl) ?_
  refine k_points hst C (by exact ⟨(Nat.le_of_ble_eq_true rfl), (Nat.le_of_ble_eq_true rfl)⟩) hI hl.1 ra rb rd (Nat.le_of_ble_eq_true rfl) ⟨(Nat.le_of_ble_eq_true rfl), (Nat.le_of_ble_eq_true rfl)⟩ dL_act_78 (fun c1 H locs hI2 rv => ?_) (fun c1 H locs q ce hI2 e1 e2 e3 => ?_)
  · have eo : outI (pointsS S a b d) = _ := outI_0 c1
    rw [eo]
    refine fl_goto (tgt := 257) C.1 dL_act_81 (by decide) ?_
    exact k_iret C hI2 hr rv dL_act_257 (Nat.le_of_ble_eq_true rfl) (Nat.le_of_ble_eq_true rfl)
  · have hc : (pointsS S a b d).1 = 0 ∨ (pointsS S a b d).1 = 1 ∨ (pointsS S a b d).1 = 2 ∨ (pointsS S a b d).1 = 3 := by
      have h9 := pointsS_co (s := S) (p := a) (w := b) (v := d)
      omega
    exact act_catch C hr ht hI2 hl (co3 c1 hc) ⟨(Nat.le_of_ble_eq_true rfl), (Nat.le_of_ble_eq_true rfl)⟩ (if_neg c1) e1 e2 e3 (Nat.le_of_ble_eq_true rfl) (Nat.le_of_ble_eq_true rfl)
set_option maxRecDepth 100000 in
set_option maxHeartbeats 4000000 in
theorem act_b6 {w a b d : Int} (hst : l.stackTraces = false) (C : LC p s m meth c D cy B cL_act 6) (hr : meth.sig.returnType = some .int) (ht : c.exceptionTable.toList = tableOf [(0, 257, 258, 71), (0, 257, 263, 74), (0, 257, 268, 77)]) (hI : HI D cy B s.heap H locs x S) (hl : lv_has ls 6 [(0, .ref x), (1, iv w), (2, iv a), (3, iv b), (4, iv d)]) (ra : rg a) (rb : rg b) (rd : rg d) (h0 : w = 6) : W p l e rm_L_act s m args below meth c H locs 0 0 (MQ below (HQ D cy B x (outI (actQ S w a b d)) (actQ S w a b d).2.2) args s 9 2061 (fun q => B ≤ q)) (F0 m 90 ls []) := by
  subst h0
  have eq : actQ S 6 a b d = mendS S a b := rfl
  rw [eq]
  refine lv_aload_n C.1.1 C.1.2.1 dL_act_90 rfl (lv_at hl 0 rfl) ?_
  refine lv_iload_n C.1.1 C.1.2.1 dL_act_91 rfl (lv_at hl 2 rfl) ?_
  refine lv_iload_n C.1.1 C.1.2.1 dL_act_92 rfl (lv_at hl 3 rfl) ?_
  refine k_mend hst C (by exact ⟨(Nat.le_of_ble_eq_true rfl), (Nat.le_of_ble_eq_true rfl)⟩) hI hl.1 ra rb (Nat.le_of_ble_eq_true rfl) ⟨(Nat.le_of_ble_eq_true rfl), (Nat.le_of_ble_eq_true rfl)⟩ dL_act_93 (fun c1 H locs hI2 rv => ?_) (fun c1 H locs q ce hI2 e1 e2 e3 => ?_)
  · have eo : outI (mendS S a b) = _ := outI_0 c1
    rw [eo]
    refine fl_goto (tgt := 257) C.1 dL_act_96 (by decide) ?_
    exact k_iret C hI2 hr rv dL_act_257 (Nat.le_of_ble_eq_true rfl) (Nat.le_of_ble_eq_true rfl)
  · have hc : (mendS S a b).1 = 0 ∨ (mendS S a b).1 = 1 ∨ (mendS S a b).1 = 2 ∨ (mendS S a b).1 = 3 := by
      have h9 := mendS_co (s := S) (w := a) (v := b)
      omega
    exact act_catch C hr ht hI2 hl (co3 c1 hc) ⟨(Nat.le_of_ble_eq_true rfl), (Nat.le_of_ble_eq_true rfl)⟩ (if_neg c1) e1 e2 e3 (Nat.le_of_ble_eq_true rfl) (Nat.le_of_ble_eq_true rfl)
set_option maxRecDepth 100000 in
set_option maxHeartbeats 4000000 in
theorem act_b7 {w a b d : Int} (hst : l.stackTraces = false) (C : LC p s m meth c D cy B cL_act 6) (hr : meth.sig.returnType = some .int) (ht : c.exceptionTable.toList = tableOf [(0, 257, 258, 71), (0, 257, 263, 74), (0, 257, 268, 77)]) (hI : HI D cy B s.heap H locs x S) (hl : lv_has ls 6 [(0, .ref x), (1, iv w), (2, iv a), (3, iv b), (4, iv d)]) (ra : rg a) (rb : rg b) (rd : rg d) (h0 : w = 7) : W p l e rm_L_act s m args below meth c H locs 0 0 (MQ below (HQ D cy B x (outI (actQ S w a b d)) (actQ S w a b d).2.2) args s 9 2061 (fun q => B ≤ q)) (F0 m 105 ls []) := by
  subst h0
  have eq : actQ S 7 a b d = answerS S a b d := rfl
  rw [eq]
  refine lv_aload_n C.1.1 C.1.2.1 dL_act_105 rfl (lv_at hl 0 rfl) ?_
  refine lv_iload_n C.1.1 C.1.2.1 dL_act_106 rfl (lv_at hl 2 rfl) ?_
  refine lv_iload_n C.1.1 C.1.2.1 dL_act_107 rfl (lv_at hl 3 rfl) ?_
  refine lv_iload C.1.1 C.1.2.1 dL_act_108 (lv_at hl 4 rfl) ?_
  refine k_answer hst C (by exact ⟨(Nat.le_of_ble_eq_true rfl), (Nat.le_of_ble_eq_true rfl)⟩) hI hl.1 ra rb rd (Nat.le_of_ble_eq_true rfl) ⟨(Nat.le_of_ble_eq_true rfl), (Nat.le_of_ble_eq_true rfl)⟩ dL_act_110 (fun c1 H locs hI2 rv => ?_) (fun c1 H locs q ce hI2 e1 e2 e3 => ?_)
  · have eo : outI (answerS S a b d) = _ := outI_0 c1
    rw [eo]
    refine fl_goto (tgt := 257) C.1 dL_act_113 (by decide) ?_
    exact k_iret C hI2 hr rv dL_act_257 (Nat.le_of_ble_eq_true rfl) (Nat.le_of_ble_eq_true rfl)
  · have hc : (answerS S a b d).1 = 0 ∨ (answerS S a b d).1 = 1 ∨ (answerS S a b d).1 = 2 ∨ (answerS S a b d).1 = 3 := by
      have h9 := answerS_co (s := S) (p := a) (w := b) (v := d)
      omega
    exact act_catch C hr ht hI2 hl (co3 c1 hc) ⟨(Nat.le_of_ble_eq_true rfl), (Nat.le_of_ble_eq_true rfl)⟩ (if_neg c1) e1 e2 e3 (Nat.le_of_ble_eq_true rfl) (Nat.le_of_ble_eq_true rfl)
set_option maxRecDepth 100000 in
set_option maxHeartbeats 4000000 in
theorem act_b8 {w a b d : Int} (hst : l.stackTraces = false) (C : LC p s m meth c D cy B cL_act 6) (hr : meth.sig.returnType = some .int) (ht : c.exceptionTable.toList = tableOf [(0, 257, 258, 71), (0, 257, 263, 74), (0, 257, 268, 77)]) (hI : HI D cy B s.heap H locs x S) (hl : lv_has ls 6 [(0, .ref x), (1, iv w), (2, iv a), (3, iv b), (4, iv d)]) (ra : rg a) (rb : rg b) (rd : rg d) (h0 : w = 8) : W p l e rm_L_act s m args below meth c H locs 0 0 (MQ below (HQ D cy B x (outI (actQ S w a b d)) (actQ S w a b d).2.2) args s 9 2061 (fun q => B ≤ q)) (F0 m 122 ls []) := by
  subst h0
  have eq : actQ S 8 a b d = enterS S a b := rfl
  rw [eq]
  refine lv_aload_n C.1.1 C.1.2.1 dL_act_122 rfl (lv_at hl 0 rfl) ?_
  refine lv_iload_n C.1.1 C.1.2.1 dL_act_123 rfl (lv_at hl 2 rfl) ?_
  refine lv_iload_n C.1.1 C.1.2.1 dL_act_124 rfl (lv_at hl 3 rfl) ?_
  refine k_enter hst C (by exact ⟨(Nat.le_of_ble_eq_true rfl), (Nat.le_of_ble_eq_true rfl)⟩) hI hl.1 ra rb (Nat.le_of_ble_eq_true rfl) ⟨(Nat.le_of_ble_eq_true rfl), (Nat.le_of_ble_eq_true rfl)⟩ dL_act_125 (fun c1 H locs hI2 rv => ?_) (fun c1 H locs q ce hI2 e1 e2 e3 => ?_)
  · have eo : outI (enterS S a b) = _ := outI_0 c1
    rw [eo]
    refine fl_goto (tgt := 257) C.1 dL_act_128 (by decide) ?_
    exact k_iret C hI2 hr rv dL_act_257 (Nat.le_of_ble_eq_true rfl) (Nat.le_of_ble_eq_true rfl)
  · have hc : (enterS S a b).1 = 0 ∨ (enterS S a b).1 = 1 ∨ (enterS S a b).1 = 2 ∨ (enterS S a b).1 = 3 := by
      have h9 := enterS_co (s := S) (w := a) (v := b)
      omega
    exact act_catch C hr ht hI2 hl (co3 c1 hc) ⟨(Nat.le_of_ble_eq_true rfl), (Nat.le_of_ble_eq_true rfl)⟩ (if_neg c1) e1 e2 e3 (Nat.le_of_ble_eq_true rfl) (Nat.le_of_ble_eq_true rfl)
set_option maxRecDepth 100000 in
set_option maxHeartbeats 4000000 in
theorem act_b9 {w a b d : Int} (hst : l.stackTraces = false) (C : LC p s m meth c D cy B cL_act 6) (hr : meth.sig.returnType = some .int) (ht : c.exceptionTable.toList = tableOf [(0, 257, 258, 71), (0, 257, 263, 74), (0, 257, 268, 77)]) (hI : HI D cy B s.heap H locs x S) (hl : lv_has ls 6 [(0, .ref x), (1, iv w), (2, iv a), (3, iv b), (4, iv d)]) (ra : rg a) (rb : rg b) (rd : rg d) (h0 : w = 9) : W p l e rm_L_act s m args below meth c H locs 0 0 (MQ below (HQ D cy B x (outI (actQ S w a b d)) (actQ S w a b d).2.2) args s 9 2061 (fun q => B ≤ q)) (F0 m 137 ls []) := by
  subst h0
  have eq : actQ S 9 a b d = passS S a := rfl
  rw [eq]
  refine lv_aload_n C.1.1 C.1.2.1 dL_act_137 rfl (lv_at hl 0 rfl) ?_
  refine lv_iload_n C.1.1 C.1.2.1 dL_act_138 rfl (lv_at hl 2 rfl) ?_
  refine k_pass hst C (by exact ⟨(Nat.le_of_ble_eq_true rfl), (Nat.le_of_ble_eq_true rfl)⟩) hI hl.1 ra (Nat.le_of_ble_eq_true rfl) ⟨(Nat.le_of_ble_eq_true rfl), (Nat.le_of_ble_eq_true rfl)⟩ dL_act_139 (fun c1 H locs hI2 rv => ?_) (fun c1 H locs q ce hI2 e1 e2 e3 => ?_)
  · have eo : outI (passS S a) = _ := outI_0 c1
    rw [eo]
    refine fl_goto (tgt := 257) C.1 dL_act_142 (by decide) ?_
    exact k_iret C hI2 hr rv dL_act_257 (Nat.le_of_ble_eq_true rfl) (Nat.le_of_ble_eq_true rfl)
  · have hc : (passS S a).1 = 0 ∨ (passS S a).1 = 1 ∨ (passS S a).1 = 2 ∨ (passS S a).1 = 3 := by
      have h9 := passS_co (s := S) (v := a)
      omega
    exact act_catch C hr ht hI2 hl (co3 c1 hc) ⟨(Nat.le_of_ble_eq_true rfl), (Nat.le_of_ble_eq_true rfl)⟩ (if_neg c1) e1 e2 e3 (Nat.le_of_ble_eq_true rfl) (Nat.le_of_ble_eq_true rfl)
set_option maxRecDepth 100000 in
set_option maxHeartbeats 4000000 in
theorem act_b10 {w a b d : Int} (hst : l.stackTraces = false) (C : LC p s m meth c D cy B cL_act 6) (hr : meth.sig.returnType = some .int) (ht : c.exceptionTable.toList = tableOf [(0, 257, 258, 71), (0, 257, 263, 74), (0, 257, 268, 77)]) (hI : HI D cy B s.heap H locs x S) (hl : lv_has ls 6 [(0, .ref x), (1, iv w), (2, iv a), (3, iv b), (4, iv d)]) (ra : rg a) (rb : rg b) (rd : rg d) (h0 : w = 10) : W p l e rm_L_act s m args below meth c H locs 0 0 (MQ below (HQ D cy B x (outI (actQ S w a b d)) (actQ S w a b d).2.2) args s 9 2061 (fun q => B ≤ q)) (F0 m 151 ls []) := by
  subst h0
  have eq : actQ S 10 a b d = rejudgeS S a := rfl
  rw [eq]
  refine lv_aload_n C.1.1 C.1.2.1 dL_act_151 rfl (lv_at hl 0 rfl) ?_
  refine lv_iload_n C.1.1 C.1.2.1 dL_act_152 rfl (lv_at hl 2 rfl) ?_
  refine k_rejudge hst C (by exact ⟨(Nat.le_of_ble_eq_true rfl), (Nat.le_of_ble_eq_true rfl)⟩) hI hl.1 ra (Nat.le_of_ble_eq_true rfl) ⟨(Nat.le_of_ble_eq_true rfl), (Nat.le_of_ble_eq_true rfl)⟩ dL_act_153 (fun c1 H locs hI2 rv => ?_) (fun c1 H locs q ce hI2 e1 e2 e3 => ?_)
  · have eo : outI (rejudgeS S a) = _ := outI_0 c1
    rw [eo]
    refine fl_goto (tgt := 257) C.1 dL_act_156 (by decide) ?_
    exact k_iret C hI2 hr rv dL_act_257 (Nat.le_of_ble_eq_true rfl) (Nat.le_of_ble_eq_true rfl)
  · have hc : (rejudgeS S a).1 = 0 ∨ (rejudgeS S a).1 = 1 ∨ (rejudgeS S a).1 = 2 ∨ (rejudgeS S a).1 = 3 := by
      have h9 := rejudgeS_co (s := S) (v := a)
      omega
    exact act_catch C hr ht hI2 hl (co3 c1 hc) ⟨(Nat.le_of_ble_eq_true rfl), (Nat.le_of_ble_eq_true rfl)⟩ (if_neg c1) e1 e2 e3 (Nat.le_of_ble_eq_true rfl) (Nat.le_of_ble_eq_true rfl)
set_option maxRecDepth 100000 in
set_option maxHeartbeats 4000000 in
theorem act_b11 {w a b d : Int} (hst : l.stackTraces = false) (C : LC p s m meth c D cy B cL_act 6) (hr : meth.sig.returnType = some .int) (ht : c.exceptionTable.toList = tableOf [(0, 257, 258, 71), (0, 257, 263, 74), (0, 257, 268, 77)]) (hI : HI D cy B s.heap H locs x S) (hl : lv_has ls 6 [(0, .ref x), (1, iv w), (2, iv a), (3, iv b), (4, iv d)]) (ra : rg a) (rb : rg b) (rd : rg d) (h0 : w = 11) : W p l e rm_L_act s m args below meth c H locs 0 0 (MQ below (HQ D cy B x (outI (actQ S w a b d)) (actQ S w a b d).2.2) args s 9 2061 (fun q => B ≤ q)) (F0 m 165 ls []) := by
  subst h0
  have eq : actQ S 11 a b d = entryS S a b := rfl
  rw [eq]
  refine lv_aload_n C.1.1 C.1.2.1 dL_act_165 rfl (lv_at hl 0 rfl) ?_
  refine lv_iload_n C.1.1 C.1.2.1 dL_act_166 rfl (lv_at hl 2 rfl) ?_
  refine lv_iload_n C.1.1 C.1.2.1 dL_act_167 rfl (lv_at hl 3 rfl) ?_
  refine k_entry hst C (by exact ⟨(Nat.le_of_ble_eq_true rfl), (Nat.le_of_ble_eq_true rfl)⟩) hI hl.1 ra rb (Nat.le_of_ble_eq_true rfl) ⟨(Nat.le_of_ble_eq_true rfl), (Nat.le_of_ble_eq_true rfl)⟩ dL_act_168 (fun c1 H locs hI2 rv => ?_) (fun c1 H locs q ce hI2 e1 e2 e3 => ?_)
  · have eo : outI (entryS S a b) = _ := outI_0 c1
    rw [eo]
    refine fl_goto (tgt := 257) C.1 dL_act_171 (by decide) ?_
    exact k_iret C hI2 hr rv dL_act_257 (Nat.le_of_ble_eq_true rfl) (Nat.le_of_ble_eq_true rfl)
  · have hc : (entryS S a b).1 = 0 ∨ (entryS S a b).1 = 1 ∨ (entryS S a b).1 = 2 ∨ (entryS S a b).1 = 3 := by
      have h9 := entryS_co (s := S) (w := a) (v := b)
      omega
    exact act_catch C hr ht hI2 hl (co3 c1 hc) ⟨(Nat.le_of_ble_eq_true rfl), (Nat.le_of_ble_eq_true rfl)⟩ (if_neg c1) e1 e2 e3 (Nat.le_of_ble_eq_true rfl) (Nat.le_of_ble_eq_true rfl)
set_option maxRecDepth 100000 in
set_option maxHeartbeats 4000000 in
theorem act_b12 {w a b d : Int} (hst : l.stackTraces = false) (C : LC p s m meth c D cy B cL_act 6) (hr : meth.sig.returnType = some .int) (ht : c.exceptionTable.toList = tableOf [(0, 257, 258, 71), (0, 257, 263, 74), (0, 257, 268, 77)]) (hI : HI D cy B s.heap H locs x S) (hl : lv_has ls 6 [(0, .ref x), (1, iv w), (2, iv a), (3, iv b), (4, iv d)]) (ra : rg a) (rb : rg b) (rd : rg d) (h0 : w = 12) : W p l e rm_L_act s m args below meth c H locs 0 0 (MQ below (HQ D cy B x (outI (actQ S w a b d)) (actQ S w a b d).2.2) args s 9 2061 (fun q => B ≤ q)) (F0 m 180 ls []) := by
  subst h0
  have eq : actQ S 12 a b d = likenessS S a b := rfl
  rw [eq]
  refine lv_aload_n C.1.1 C.1.2.1 dL_act_180 rfl (lv_at hl 0 rfl) ?_
  refine lv_iload_n C.1.1 C.1.2.1 dL_act_181 rfl (lv_at hl 2 rfl) ?_
  refine lv_iload_n C.1.1 C.1.2.1 dL_act_182 rfl (lv_at hl 3 rfl) ?_
  refine k_likeness hst C (by exact ⟨(Nat.le_of_ble_eq_true rfl), (Nat.le_of_ble_eq_true rfl)⟩) hI hl.1 ra rb (Nat.le_of_ble_eq_true rfl) ⟨(Nat.le_of_ble_eq_true rfl), (Nat.le_of_ble_eq_true rfl)⟩ dL_act_183 (fun c1 H locs hI2 rv => ?_) (fun c1 H locs q ce hI2 e1 e2 e3 => ?_)
  · have eo : outI (likenessS S a b) = _ := outI_0 c1
    rw [eo]
    refine fl_goto (tgt := 257) C.1 dL_act_186 (by decide) ?_
    exact k_iret C hI2 hr rv dL_act_257 (Nat.le_of_ble_eq_true rfl) (Nat.le_of_ble_eq_true rfl)
  · have hc : (likenessS S a b).1 = 0 ∨ (likenessS S a b).1 = 1 ∨ (likenessS S a b).1 = 2 ∨ (likenessS S a b).1 = 3 := by
      have h9 := likenessS_co (s := S) (w := a) (v := b)
      omega
    exact act_catch C hr ht hI2 hl (co3 c1 hc) ⟨(Nat.le_of_ble_eq_true rfl), (Nat.le_of_ble_eq_true rfl)⟩ (if_neg c1) e1 e2 e3 (Nat.le_of_ble_eq_true rfl) (Nat.le_of_ble_eq_true rfl)
set_option maxRecDepth 100000 in
set_option maxHeartbeats 4000000 in
theorem act_b13 {w a b d : Int} (hst : l.stackTraces = false) (C : LC p s m meth c D cy B cL_act 6) (hr : meth.sig.returnType = some .int) (ht : c.exceptionTable.toList = tableOf [(0, 257, 258, 71), (0, 257, 263, 74), (0, 257, 268, 77)]) (hI : HI D cy B s.heap H locs x S) (hl : lv_has ls 6 [(0, .ref x), (1, iv w), (2, iv a), (3, iv b), (4, iv d)]) (ra : rg a) (rb : rg b) (rd : rg d) (h0 : w = 13) : W p l e rm_L_act s m args below meth c H locs 0 0 (MQ below (HQ D cy B x (outI (actQ S w a b d)) (actQ S w a b d).2.2) args s 9 2061 (fun q => B ≤ q)) (F0 m 195 ls []) := by
  subst h0
  have eq : actQ S 13 a b d = frzQ S a := rfl
  rw [eq]
  refine lv_aload_n C.1.1 C.1.2.1 dL_act_195 rfl (lv_at hl 0 rfl) ?_
  refine lv_iload_n C.1.1 C.1.2.1 dL_act_196 rfl (lv_at hl 2 rfl) ?_
  refine k_frz hst C (by exact ⟨(Nat.le_of_ble_eq_true rfl), (Nat.le_of_ble_eq_true rfl)⟩) hI hl.1 ra (Nat.le_of_ble_eq_true rfl) ⟨(Nat.le_of_ble_eq_true rfl), (Nat.le_of_ble_eq_true rfl)⟩ dL_act_197 (fun c1 H locs hI2 => ?_) (fun c1 H locs q ce hI2 e1 e2 e3 => ?_)
  · have eo : outI (frzQ S a) = _ := outI_0 c1
    rw [eo]
    refine fl_goto (tgt := 257) C.1 dL_act_200 (by decide) ?_
    exact k_iret C hI2 hr (rgk 1 rfl) dL_act_257 (Nat.le_of_ble_eq_true rfl) (Nat.le_of_ble_eq_true rfl)
  · have hc : (freezeS S a).1 = 0 ∨ (freezeS S a).1 = 1 ∨ (freezeS S a).1 = 2 ∨ (freezeS S a).1 = 3 := by
      have h9 := freezeS_co (s := S) (v := a)
      omega
    exact act_catch C hr ht hI2 hl (co3 c1 hc) ⟨(Nat.le_of_ble_eq_true rfl), (Nat.le_of_ble_eq_true rfl)⟩ (if_neg c1) e1 e2 e3 (Nat.le_of_ble_eq_true rfl) (Nat.le_of_ble_eq_true rfl)
set_option maxRecDepth 100000 in
set_option maxHeartbeats 4000000 in
theorem act_b14 {w a b d : Int} (hst : l.stackTraces = false) (C : LC p s m meth c D cy B cL_act 6) (hr : meth.sig.returnType = some .int) (ht : c.exceptionTable.toList = tableOf [(0, 257, 258, 71), (0, 257, 263, 74), (0, 257, 268, 77)]) (hI : HI D cy B s.heap H locs x S) (hl : lv_has ls 6 [(0, .ref x), (1, iv w), (2, iv a), (3, iv b), (4, iv d)]) (ra : rg a) (rb : rg b) (rd : rg d) (h0 : w = 14) : W p l e rm_L_act s m args below meth c H locs 0 0 (MQ below (HQ D cy B x (outI (actQ S w a b d)) (actQ S w a b d).2.2) args s 9 2061 (fun q => B ≤ q)) (F0 m 209 ls []) := by
  subst h0
  have eq : actQ S 14 a b d = boardS S a (if b = 1 then 1 else 0) d := rfl
  rw [eq]
  refine lv_aload_n C.1.1 C.1.2.1 dL_act_209 rfl (lv_at hl 0 rfl) ?_
  refine lv_iload_n C.1.1 C.1.2.1 dL_act_210 rfl (lv_at hl 2 rfl) ?_
  refine lv_iload_n C.1.1 C.1.2.1 dL_act_211 rfl (lv_at hl 3 rfl) ?_
  refine fl_iconst C.1 dL_act_212 ?_
  refine fl_icmp_ne (tgt := 220) C.1 rb (rgk 1 rfl) dL_act_213 (by decide) (fun z => ?_) (fun z => ?_)
  · rw [if_neg z]
    refine fl_iconst C.1 dL_act_220 ?_
    refine lv_iload C.1.1 C.1.2.1 dL_act_221 (lv_at hl 4 rfl) ?_
    refine k_board hst C (by exact ⟨(Nat.le_of_ble_eq_true rfl), (Nat.le_of_ble_eq_true rfl)⟩) hI hl.1 ra (rgk 0 rfl) rd (Nat.le_of_ble_eq_true rfl) ⟨(Nat.le_of_ble_eq_true rfl), (Nat.le_of_ble_eq_true rfl)⟩ dL_act_223 (fun c1 H locs hI2 rv => ?_) (fun c1 H locs q ce hI2 e1 e2 e3 => ?_)
    · have eo : outI (boardS S a 0 d) = _ := outI_0 c1
      rw [eo]
      refine fl_goto (tgt := 257) C.1 dL_act_226 (by decide) ?_
      exact k_iret C hI2 hr rv dL_act_257 (Nat.le_of_ble_eq_true rfl) (Nat.le_of_ble_eq_true rfl)
    · have hc : (boardS S a 0 d).1 = 0 ∨ (boardS S a 0 d).1 = 1 ∨ (boardS S a 0 d).1 = 2 ∨ (boardS S a 0 d).1 = 3 := by
        have h9 := boardS_co (s := S) (p := a) (w := 0) (v := d)
        omega
      exact act_catch C hr ht hI2 hl (co3 c1 hc) ⟨(Nat.le_of_ble_eq_true rfl), (Nat.le_of_ble_eq_true rfl)⟩ (if_neg c1) e1 e2 e3 (Nat.le_of_ble_eq_true rfl) (Nat.le_of_ble_eq_true rfl)
  · rw [if_pos z]
    refine fl_iconst C.1 dL_act_216 ?_
    refine fl_goto (tgt := 221) C.1 dL_act_217 (by decide) ?_
    refine lv_iload C.1.1 C.1.2.1 dL_act_221 (lv_at hl 4 rfl) ?_
    refine k_board hst C (by exact ⟨(Nat.le_of_ble_eq_true rfl), (Nat.le_of_ble_eq_true rfl)⟩) hI hl.1 ra (rgk 1 rfl) rd (Nat.le_of_ble_eq_true rfl) ⟨(Nat.le_of_ble_eq_true rfl), (Nat.le_of_ble_eq_true rfl)⟩ dL_act_223 (fun c1 H locs hI2 rv => ?_) (fun c1 H locs q ce hI2 e1 e2 e3 => ?_)
    · have eo : outI (boardS S a 1 d) = _ := outI_0 c1
      rw [eo]
      refine fl_goto (tgt := 257) C.1 dL_act_226 (by decide) ?_
      exact k_iret C hI2 hr rv dL_act_257 (Nat.le_of_ble_eq_true rfl) (Nat.le_of_ble_eq_true rfl)
    · have hc : (boardS S a 1 d).1 = 0 ∨ (boardS S a 1 d).1 = 1 ∨ (boardS S a 1 d).1 = 2 ∨ (boardS S a 1 d).1 = 3 := by
        have h9 := boardS_co (s := S) (p := a) (w := 1) (v := d)
        omega
      exact act_catch C hr ht hI2 hl (co3 c1 hc) ⟨(Nat.le_of_ble_eq_true rfl), (Nat.le_of_ble_eq_true rfl)⟩ (if_neg c1) e1 e2 e3 (Nat.le_of_ble_eq_true rfl) (Nat.le_of_ble_eq_true rfl)
set_option maxRecDepth 100000 in
set_option maxHeartbeats 4000000 in
theorem act_b15 {w a b d : Int} (hst : l.stackTraces = false) (C : LC p s m meth c D cy B cL_act 6) (hr : meth.sig.returnType = some .int) (ht : c.exceptionTable.toList = tableOf [(0, 257, 258, 71), (0, 257, 263, 74), (0, 257, 268, 77)]) (hI : HI D cy B s.heap H locs x S) (hl : lv_has ls 6 [(0, .ref x), (1, iv w), (2, iv a), (3, iv b), (4, iv d)]) (ra : rg a) (rb : rg b) (rd : rg d) (h0 : w = 15) : W p l e rm_L_act s m args below meth c H locs 0 0 (MQ below (HQ D cy B x (outI (actQ S w a b d)) (actQ S w a b d).2.2) args s 9 2061 (fun q => B ≤ q)) (F0 m 235 ls []) := by
  subst h0
  have eq : actQ S 15 a b d = placeAnewS S a := rfl
  rw [eq]
  refine lv_aload_n C.1.1 C.1.2.1 dL_act_235 rfl (lv_at hl 0 rfl) ?_
  refine lv_iload_n C.1.1 C.1.2.1 dL_act_236 rfl (lv_at hl 2 rfl) ?_
  refine k_placeAnew hst C (by exact ⟨(Nat.le_of_ble_eq_true rfl), (Nat.le_of_ble_eq_true rfl)⟩) hI hl.1 ra (Nat.le_of_ble_eq_true rfl) ⟨(Nat.le_of_ble_eq_true rfl), (Nat.le_of_ble_eq_true rfl)⟩ dL_act_237 (fun c1 H locs hI2 rv => ?_) (fun c1 H locs q ce hI2 e1 e2 e3 => ?_)
  · have eo : outI (placeAnewS S a) = _ := outI_0 c1
    rw [eo]
    refine fl_goto (tgt := 257) C.1 dL_act_240 (by decide) ?_
    exact k_iret C hI2 hr rv dL_act_257 (Nat.le_of_ble_eq_true rfl) (Nat.le_of_ble_eq_true rfl)
  · have hc : (placeAnewS S a).1 = 0 ∨ (placeAnewS S a).1 = 1 ∨ (placeAnewS S a).1 = 2 ∨ (placeAnewS S a).1 = 3 := by
      have h9 := placeAnewS_co (s := S) (v := a)
      omega
    exact act_catch C hr ht hI2 hl (co3 c1 hc) ⟨(Nat.le_of_ble_eq_true rfl), (Nat.le_of_ble_eq_true rfl)⟩ (if_neg c1) e1 e2 e3 (Nat.le_of_ble_eq_true rfl) (Nat.le_of_ble_eq_true rfl)
set_option maxRecDepth 100000 in
set_option maxHeartbeats 4000000 in
theorem act_b16 {w a b d : Int} (hst : l.stackTraces = false) (C : LC p s m meth c D cy B cL_act 6) (hr : meth.sig.returnType = some .int) (ht : c.exceptionTable.toList = tableOf [(0, 257, 258, 71), (0, 257, 263, 74), (0, 257, 268, 77)]) (hI : HI D cy B s.heap H locs x S) (hl : lv_has ls 6 [(0, .ref x), (1, iv w), (2, iv a), (3, iv b), (4, iv d)]) (ra : rg a) (rb : rg b) (rd : rg d) (h0 : ¬ w = 0 ∧ ¬ w = 1 ∧ ¬ w = 2 ∧ ¬ w = 3 ∧ ¬ w = 4 ∧ ¬ w = 5 ∧ ¬ w = 6 ∧ ¬ w = 7 ∧ ¬ w = 8 ∧ ¬ w = 9 ∧ ¬ w = 10 ∧ ¬ w = 11 ∧ ¬ w = 12 ∧ ¬ w = 13 ∧ ¬ w = 14 ∧ ¬ w = 15) : W p l e rm_L_act s m args below meth c H locs 0 0 (MQ below (HQ D cy B x (outI (actQ S w a b d)) (actQ S w a b d).2.2) args s 9 2061 (fun q => B ≤ q)) (F0 m 243 ls []) := by
  obtain ⟨z0, z1, z2, z3, z4, z5, z6, z7, z8, z9, z10, z11, z12, z13, z14, z15⟩ := h0
  have eq : actQ S w a b d = hackZ S a b := by
    unfold actQ
    rw [if_neg z0, if_neg z1, if_neg z2, if_neg z3, if_neg z4, if_neg z5, if_neg z6, if_neg z7, if_neg z8, if_neg z9, if_neg z10, if_neg z11, if_neg z12, if_neg z13, if_neg z14, if_neg z15]
  rw [eq]
  refine lv_aload_n C.1.1 C.1.2.1 dL_act_243 rfl (lv_at hl 0 rfl) ?_
  refine lv_iload_n C.1.1 C.1.2.1 dL_act_244 rfl (lv_at hl 2 rfl) ?_
  refine lv_iload_n C.1.1 C.1.2.1 dL_act_245 rfl (lv_at hl 3 rfl) ?_
  refine k_hack hst C (by exact ⟨(Nat.le_of_ble_eq_true rfl), (Nat.le_of_ble_eq_true rfl)⟩) hI hl.1 ra rb (Nat.le_of_ble_eq_true rfl) ⟨(Nat.le_of_ble_eq_true rfl), (Nat.le_of_ble_eq_true rfl)⟩ dL_act_246 (fun c1 H locs hI2 rv => ?_) (fun c1 H locs q ce hI2 e1 e2 e3 => ?_)
  · have eo : outI (hackZ S a b) = _ := outI_0 (show (hackZ S a b).1 = 0 from c1)
    rw [eo]
    show W p l e rm_L_act s m args below meth c H locs _ _ (MQ below (HQ D cy B x (if (hackS S a b).2.1 = 0 then 0 else 1) (hackS S a b).2.2) args s 9 2061 (fun q => B ≤ q)) _
    refine fl_if_eq (tgt := 256) C.1 rv dL_act_249 (by decide) (fun z => ?_) (fun z => ?_)
    · rw [if_pos z]
      refine fl_iconst C.1 dL_act_256 ?_
      exact k_iret C hI2 hr (rgk 0 rfl) dL_act_257 (Nat.le_of_ble_eq_true rfl) (Nat.le_of_ble_eq_true rfl)
    · rw [if_neg z]
      refine fl_iconst C.1 dL_act_252 ?_
      refine fl_goto (tgt := 257) C.1 dL_act_253 (by decide) ?_
      exact k_iret C hI2 hr (rgk 1 rfl) dL_act_257 (Nat.le_of_ble_eq_true rfl) (Nat.le_of_ble_eq_true rfl)
  · have hc : (hackS S a b).1 = 0 ∨ (hackS S a b).1 = 1 ∨ (hackS S a b).1 = 2 ∨ (hackS S a b).1 = 3 := by
      have h9 := hackS_co (s := S) (w := a) (v := b)
      omega
    exact act_catch C hr ht hI2 hl (co3 c1 hc) ⟨(Nat.le_of_ble_eq_true rfl), (Nat.le_of_ble_eq_true rfl)⟩ (if_neg c1) e1 e2 e3 (Nat.le_of_ble_eq_true rfl) (Nat.le_of_ble_eq_true rfl)
set_option maxRecDepth 100000 in
set_option maxHeartbeats 4000000 in
theorem d_act (hst : l.stackTraces = false) {w a b d : Int} (rgw : rg w) (ra : rg a) (rb : rg b) (rd : rg d) : Met l yL_act [.codeWith yL_act cL_act 6 (some .int) [(0, 257, 258, 71), (0, 257, 263, 74), (0, 257, 268, 77)]] rm_L_act (va_Pc [.ref x, iv w, iv a, iv b, iv d] (HW D cy B x S)) (HQ D cy B x (outI (actQ S w a b d)) (actQ S w a b d).2.2) 9 2061 (fun q => B ≤ q) := by
  refine hb_bodyH (by decide) rfl (Nat.le_of_ble_eq_true rfl) ?_
  intro p e s m args below meth c ls C hr ht hI hl
  have hl : lv_has ls 6 [(0, .ref x), (1, iv w), (2, iv a), (3, iv b), (4, iv d)] := hl
  refine lv_iload_n C.1.1 C.1.2.1 dL_act_0 rfl (lv_at hl 1 rfl) ?_
  refine fl_if_ne (tgt := 13) C.1 rgw dL_act_1 (by decide) (fun n0 => ?_) (fun h0 => act_b0 hst C hr ht hI hl ra rb rd h0)
  refine lv_iload_n C.1.1 C.1.2.1 dL_act_13 rfl (lv_at hl 1 rfl) ?_
  refine fl_iconst C.1 dL_act_14 ?_
  refine fl_icmp_ne (tgt := 26) C.1 rgw (rgk 1 rfl) dL_act_15 (by decide) (fun n1 => ?_) (fun h0 => act_b1 hst C hr ht hI hl ra rb rd h0)
  refine lv_iload_n C.1.1 C.1.2.1 dL_act_26 rfl (lv_at hl 1 rfl) ?_
  refine fl_iconst C.1 dL_act_27 ?_
  refine fl_icmp_ne (tgt := 40) C.1 rgw (rgk 2 rfl) dL_act_28 (by decide) (fun n2 => ?_) (fun h0 => act_b2 hst C hr ht hI hl ra rb rd h0)
  refine lv_iload_n C.1.1 C.1.2.1 dL_act_40 rfl (lv_at hl 1 rfl) ?_
  refine fl_iconst C.1 dL_act_41 ?_
  refine fl_icmp_ne (tgt := 54) C.1 rgw (rgk 3 rfl) dL_act_42 (by decide) (fun n3 => ?_) (fun h0 => act_b3 hst C hr ht hI hl ra rb rd h0)
  refine lv_iload_n C.1.1 C.1.2.1 dL_act_54 rfl (lv_at hl 1 rfl) ?_
  refine fl_iconst C.1 dL_act_55 ?_
  refine fl_icmp_ne (tgt := 68) C.1 rgw (rgk 4 rfl) dL_act_56 (by decide) (fun n4 => ?_) (fun h0 => act_b4 hst C hr ht hI hl ra rb rd h0)
  refine lv_iload_n C.1.1 C.1.2.1 dL_act_68 rfl (lv_at hl 1 rfl) ?_
  refine fl_iconst C.1 dL_act_69 ?_
  refine fl_icmp_ne (tgt := 84) C.1 rgw (rgk 5 rfl) dL_act_70 (by decide) (fun n5 => ?_) (fun h0 => act_b5 hst C hr ht hI hl ra rb rd h0)
  refine lv_iload_n C.1.1 C.1.2.1 dL_act_84 rfl (lv_at hl 1 rfl) ?_
  refine fl_bipush C.1 dL_act_85 (by decide) ?_
  refine fl_icmp_ne (tgt := 99) C.1 rgw (rgk 6 rfl) dL_act_87 (by decide) (fun n6 => ?_) (fun h0 => act_b6 hst C hr ht hI hl ra rb rd h0)
  refine lv_iload_n C.1.1 C.1.2.1 dL_act_99 rfl (lv_at hl 1 rfl) ?_
  refine fl_bipush C.1 dL_act_100 (by decide) ?_
  refine fl_icmp_ne (tgt := 116) C.1 rgw (rgk 7 rfl) dL_act_102 (by decide) (fun n7 => ?_) (fun h0 => act_b7 hst C hr ht hI hl ra rb rd h0)
  refine lv_iload_n C.1.1 C.1.2.1 dL_act_116 rfl (lv_at hl 1 rfl) ?_
  refine fl_bipush C.1 dL_act_117 (by decide) ?_
  refine fl_icmp_ne (tgt := 131) C.1 rgw (rgk 8 rfl) dL_act_119 (by decide) (fun n8 => ?_) (fun h0 => act_b8 hst C hr ht hI hl ra rb rd h0)
  refine lv_iload_n C.1.1 C.1.2.1 dL_act_131 rfl (lv_at hl 1 rfl) ?_
  refine fl_bipush C.1 dL_act_132 (by decide) ?_
  refine fl_icmp_ne (tgt := 145) C.1 rgw (rgk 9 rfl) dL_act_134 (by decide) (fun n9 => ?_) (fun h0 => act_b9 hst C hr ht hI hl ra rb rd h0)
  refine lv_iload_n C.1.1 C.1.2.1 dL_act_145 rfl (lv_at hl 1 rfl) ?_
  refine fl_bipush C.1 dL_act_146 (by decide) ?_
  refine fl_icmp_ne (tgt := 159) C.1 rgw (rgk 10 rfl) dL_act_148 (by decide) (fun n10 => ?_) (fun h0 => act_b10 hst C hr ht hI hl ra rb rd h0)
  refine lv_iload_n C.1.1 C.1.2.1 dL_act_159 rfl (lv_at hl 1 rfl) ?_
  refine fl_bipush C.1 dL_act_160 (by decide) ?_
  refine fl_icmp_ne (tgt := 174) C.1 rgw (rgk 11 rfl) dL_act_162 (by decide) (fun n11 => ?_) (fun h0 => act_b11 hst C hr ht hI hl ra rb rd h0)
  refine lv_iload_n C.1.1 C.1.2.1 dL_act_174 rfl (lv_at hl 1 rfl) ?_
  refine fl_bipush C.1 dL_act_175 (by decide) ?_
  refine fl_icmp_ne (tgt := 189) C.1 rgw (rgk 12 rfl) dL_act_177 (by decide) (fun n12 => ?_) (fun h0 => act_b12 hst C hr ht hI hl ra rb rd h0)
  refine lv_iload_n C.1.1 C.1.2.1 dL_act_189 rfl (lv_at hl 1 rfl) ?_
  refine fl_bipush C.1 dL_act_190 (by decide) ?_
  refine fl_icmp_ne (tgt := 203) C.1 rgw (rgk 13 rfl) dL_act_192 (by decide) (fun n13 => ?_) (fun h0 => act_b13 hst C hr ht hI hl ra rb rd h0)
  refine lv_iload_n C.1.1 C.1.2.1 dL_act_203 rfl (lv_at hl 1 rfl) ?_
  refine fl_bipush C.1 dL_act_204 (by decide) ?_
  refine fl_icmp_ne (tgt := 229) C.1 rgw (rgk 14 rfl) dL_act_206 (by decide) (fun n14 => ?_) (fun h0 => act_b14 hst C hr ht hI hl ra rb rd h0)
  refine lv_iload_n C.1.1 C.1.2.1 dL_act_229 rfl (lv_at hl 1 rfl) ?_
  refine fl_bipush C.1 dL_act_230 (by decide) ?_
  refine fl_icmp_ne (tgt := 243) C.1 rgw (rgk 15 rfl) dL_act_232 (by decide) (fun n15 => ?_) (fun h0 => act_b15 hst C hr ht hI hl ra rb rd h0)
  exact act_b16 hst C hr ht hI hl ra rb rd ⟨n0, n1, n2, n3, n4, n5, n6, n7, n8, n9, n10, n11, n12, n13, n14, n15⟩
/-- a call of act -/
theorem k_act {w a b d : Int} (hst : l.stackTraces = false) (C : LC p s m meth c D cy B cc nL) (hR : 11 ≤ R.frames ∧ 305 ≤ R.locals) (hI : HI D cy B s.heap H locs x S) (hsz : ls.size = nL) (rgw : rg w) (ra : rg a) (rb : rg b) (rd : rg d) (hS : outI (actQ S w a b d) = v ∧ (actQ S w a b d).2.2 = S') (hW : (rest.map fun v => v.category).sum ≤ 8) (hf : cells + 9 ≤ R.cells ∧ slots + 2061 ≤ R.slots) (hdg : decode cc pc = .ok (.invokestatic 81, 3))
    (kk : ∀ (H : Heap) (locs : List Loc), HI D cy B s.heap H locs x S' → rg v → W p l e R s m args below meth c H locs (cells + 9) (slots + 2061) Q (F0 m (pc + 3) ls (iv v :: rest))) : W p l e R s m args below meth c H locs cells slots Q (F0 m pc ls (iv d :: iv b :: iv a :: iv w :: .ref x :: rest)) := by
  obtain ⟨rfl, rfl⟩ := hS
  exact k_callH C hI hsz (d_act hst rgw ra rb rd) aw_558 aw_559 aw_44 aw_560 rfl pm_L_act rfl rfl ⟨Nat.le_trans (Nat.le_of_ble_eq_true rfl) hR.1, Nat.le_trans (Nat.le_of_ble_eq_true rfl) hR.2⟩ rfl hW hdg hf kk
abbrev rm_L_codes : Room := { frames := 10, cells := 21, slots := 126, locals := 280 }
theorem pm_L_codes : plainM yL_codes 3 := by decide +kernel
set_option maxRecDepth 100000 in
set_option maxHeartbeats 4000000 in
theorem codes_loop (hst : l.stackTraces = false) (C : LC p s m meth c D cy B cL_codes 6) (hr : meth.sig.returnType = some .int) {N : Nat} (hN : N ≤ 7) : ∀ (n k : Nat) (S : Hl) (t z : Int) (H : Heap) (locs : List Loc) (ls : Array Slot) (cells slots : Nat), k + n = N → cells + 3 * n ≤ 21 → slots + 18 * n ≤ 126 → (0 ≤ t ∧ t < 2147483648) → rg z → cdB n S t = true → HI D cy B s.heap H locs x S → lv_has ls 6 [(5, iv (k : Int)), (4, iv z), (3, iv t), (0, .ref x), (2, iv (N : Int))] →
    W p l e rm_L_codes s m args below meth c H locs cells slots (MQ below (HQ D cy B x (cdV n S t z) (cdT n S t)) args s 21 126 (fun q => B ≤ q)) (F0 m 8 ls []) := by
  intro n
  induction n with
  | zero =>
    intro k S t z H locs ls cells slots hk hc hs ht rz hb hI hl
    have rk : rg (k : Int) := ⟨by omega, by omega⟩
    have rN : rg (N : Int) := ⟨by omega, by omega⟩
    refine lv_iload C.1.1 C.1.2.1 dL_codes_8 (lv_at hl 0 rfl) ?_
    refine lv_iload_n C.1.1 C.1.2.1 dL_codes_10 rfl (lv_at hl 4 rfl) ?_
    refine fl_icmp_ge (tgt := 36) C.1 rk rN dL_codes_11 (by decide) (fun _ => ?_) (fun h => absurd (show (N : Int) ≤ (k : Int) by omega) h)
    refine lv_iload C.1.1 C.1.2.1 dL_codes_36 (lv_at hl 1 rfl) ?_
    exact k_iret C hI hr rz dL_codes_38 (by omega) (by omega)
  | succ n ih =>
    intro k S t z H locs ls cells slots hk hc hs ht rz hb hI hl
    have rk : rg (k : Int) := ⟨by omega, by omega⟩
    have rN : rg (N : Int) := ⟨by omega, by omega⟩
    simp only [cdB, Bool.and_eq_true, beq_iff_eq] at hb
    obtain ⟨hb1, hb2⟩ := hb
    have h1 := Int.emod_nonneg t (show (10 : Int) ≠ 0 by decide)
    have h2 := Int.emod_lt_of_pos t (show (0 : Int) < 10 by decide)
    refine lv_iload C.1.1 C.1.2.1 dL_codes_8 (lv_at hl 0 rfl) ?_
    refine lv_iload_n C.1.1 C.1.2.1 dL_codes_10 rfl (lv_at hl 4 rfl) ?_
    refine fl_icmp_ge (tgt := 36) C.1 rk rN dL_codes_11 (by decide) (fun h => absurd h (by omega)) (fun _ => ?_)
    refine lv_aload_n C.1.1 C.1.2.1 dL_codes_14 rfl (lv_at hl 3 rfl) ?_
    refine lv_iload_n C.1.1 C.1.2.1 dL_codes_15 rfl (lv_at hl 2 rfl) ?_
    refine fl_bipush C.1 dL_codes_16 (by decide) ?_
    refine h_irem C.1 ht (by decide) rfl dL_codes_18 ?_
    refine fl_iconst C.1 dL_codes_19 ?_
    refine j_code (v := (codeS S (t % 10) 0).2.1) (S' := (codeS S (t % 10) 0).2.2) hst C (by exact ⟨(Nat.le_of_ble_eq_true rfl), (Nat.le_of_ble_eq_true rfl)⟩) hI hl.1 ⟨by omega, by omega⟩ (rgk 0 rfl) (Prod.ext hb1 rfl) (Nat.le_of_ble_eq_true rfl) ⟨show cells + 3 ≤ 21 by omega, show slots + 18 ≤ 126 by omega⟩ dL_codes_20 (fun H locs hI rv => ?_)
    refine lv_istore (lv' := [(4, iv (codeS S (t % 10) 0).2.1), (5, iv (k : Int)), (3, iv t), (0, .ref x), (2, iv (N : Int))]) C.1.1 C.1.2.1 dL_codes_23 hl (by decide) rfl (fun ls hl => ?_)
    refine lv_iload_n C.1.1 C.1.2.1 dL_codes_25 rfl (lv_at hl 2 rfl) ?_
    refine fl_bipush C.1 dL_codes_26 (by decide) ?_
    refine h_idiv C.1 ht (by decide) rfl dL_codes_28 ?_
    refine lv_istore_n (lv' := [(3, iv (t / 10)), (4, iv (codeS S (t % 10) 0).2.1), (5, iv (k : Int)), (0, .ref x), (2, iv (N : Int))]) C.1.1 C.1.2.1 dL_codes_29 rfl hl (by decide) rfl (fun ls hl => ?_)
    refine fl_iinc (k := 2) (lv' := [(5, iv (wr ((k : Int) + 1))), (3, iv (t / 10)), (4, iv (codeS S (t % 10) 0).2.1), (0, .ref x), (2, iv (N : Int))]) C.1 dL_codes_30 hl rfl (by decide) rfl (fun ls hl => ?_)
    refine fl_goto (tgt := 8) C.1 dL_codes_33 (by decide) ?_
    have e5 : wr ((k : Int) + 1) = ((k + 1 : Nat) : Int) := by rw [wr_id (by omega) (by omega)]; omega
    rw [e5] at hl
    exact ih (k + 1) _ (t / 10) _ H locs ls _ _ (by omega) (by omega) (by omega) ⟨by omega, by omega⟩ rv hb2 hI (lv_sub hl [0, 2, 1, 3, 4] rfl)
set_option maxRecDepth 100000 in
set_option maxHeartbeats 4000000 in
theorem d_codes (hst : l.stackTraces = false) {t : Int} {N : Nat} (hN : N ≤ 7) (ht : 0 ≤ t ∧ t < 2147483648) (hb : cdB N S t = true) : Met l yL_codes [.code yL_codes cL_codes 6 (some .int)] rm_L_codes (va_Pc [.ref x, iv t, iv (N : Int)] (HW D cy B x S)) (HQ D cy B x (cdV N S t 0) (cdT N S t)) 21 126 (fun q => B ≤ q) := by
  refine hb_body (by decide) rfl (Nat.le_of_ble_eq_true rfl) ?_
  intro p e s m args below meth c ls C hr hI hl
  have hl : lv_has ls 6 [(0, .ref x), (1, iv t), (2, iv (N : Int))] := hl
  refine lv_iload_n C.1.1 C.1.2.1 dL_codes_0 rfl (lv_at hl 1 rfl) ?_
  refine lv_istore_n (lv' := [(3, iv t), (0, .ref x), (1, iv t), (2, iv (N : Int))]) C.1.1 C.1.2.1 dL_codes_1 rfl hl (by decide) rfl (fun ls hl => ?_)
  refine fl_iconst C.1 dL_codes_2 ?_
  refine lv_istore (lv' := [(4, iv 0), (3, iv t), (0, .ref x), (1, iv t), (2, iv (N : Int))]) C.1.1 C.1.2.1 dL_codes_3 hl (by decide) rfl (fun ls hl => ?_)
  refine fl_iconst C.1 dL_codes_5 ?_
  refine lv_istore (lv' := [(5, iv 0), (4, iv 0), (3, iv t), (0, .ref x), (1, iv t), (2, iv (N : Int))]) C.1.1 C.1.2.1 dL_codes_6 hl (by decide) rfl (fun ls hl => ?_)
  exact codes_loop hst C hr hN N 0 S t 0 _ _ ls 0 0 (by omega) (by omega) (by omega) ht (rgk 0 rfl) hb hI (lv_sub hl [0, 1, 2, 3, 5] rfl)
theorem k_qcodes {t u : Int} {N : Nat} (hst : l.stackTraces = false) (C : LC p s m meth c D cy B cc nL) (hR : 11 ≤ R.frames ∧ 310 ≤ R.locals) (hI : HI D cy B s.heap H locs x S) (hsz : ls.size = nL) (hu : u = (N : Int)) (hN : N ≤ 7) (ht : 0 ≤ t ∧ t < 2147483648) (hb : cdB N S t = true ∧ cdV N S t 0 = v ∧ cdT N S t = S') (hW : (rest.map fun v => v.category).sum ≤ 8) (hf : cells + 21 ≤ R.cells ∧ slots + 126 ≤ R.slots) (hdg : decode cc pc = .ok (.invokestatic 90, 3))
    (kk : ∀ (H : Heap) (locs : List Loc), HI D cy B s.heap H locs x S' → rg v → W p l e R s m args below meth c H locs (cells + 21) (slots + 126) Q (F0 m (pc + 3) ls (iv v :: rest))) : W p l e R s m args below meth c H locs cells slots Q (F0 m pc ls (iv u :: iv t :: .ref x :: rest)) := by
  subst hu
  obtain ⟨hb, rfl, rfl⟩ := hb
  exact k_call C hI hsz (d_codes hst hN ht hb) aw_817 aw_818 aw_44 aw_819 rfl pm_L_codes rfl rfl ⟨Nat.le_trans (Nat.le_of_ble_eq_true rfl) hR.1, Nat.le_trans (Nat.le_of_ble_eq_true rfl) hR.2⟩ rfl hW hdg hf kk
abbrev rm_L_runs : Room := { frames := 10, cells := 10, slots := 60, locals := 280 }
theorem pm_L_runs : plainM yL_runs 7 := by decide +kernel
set_option maxRecDepth 100000 in
set_option maxHeartbeats 4000000 in
theorem d_runs (hst : l.stackTraces = false) {i1 i2 i3 i4 i5 i6 : Int} (hb : rnB S i1 i2 i3 i4 i5 i6 = true) (ri1 : rg i1) (ri2 : rg i2) (ri3 : rg i3) (ri4 : rg i4) (ri5 : rg i5) (ri6 : rg i6) : Met l yL_runs [.code yL_runs cL_runs 7 (some .boolean)] rm_L_runs (va_Pc [.ref x, iv i1, iv i2, iv i3, iv i4, iv i5, iv i6] (HW D cy B x S)) (HQ D cy B x 1 S) 10 60 (fun q => B ≤ q) := by
  simp only [rnB, Bool.and_eq_true] at hb
  obtain ⟨⟨⟨⟨hb0, hb1⟩, hb2⟩, hb3⟩, hb4⟩ := hb
  refine hb_body (by decide) rfl (Nat.le_of_ble_eq_true rfl) ?_
  intro p e s m args below meth c ls C hr hI hl
  have hl : lv_has ls 7 [(0, .ref x), (1, iv i1), (2, iv i2), (3, iv i3), (4, iv i4), (5, iv i5), (6, iv i6)] := hl
  refine lv_aload_n C.1.1 C.1.2.1 dL_runs_0 rfl (lv_at hl 0 rfl) ?_
  refine lv_iload_n C.1.1 C.1.2.1 dL_runs_1 rfl (lv_at hl 1 rfl) ?_
  refine fl_iconst C.1 dL_runs_2 ?_
  refine j_run hst C (by exact ⟨(Nat.le_of_ble_eq_true rfl), (Nat.le_of_ble_eq_true rfl)⟩) hI hl.1 ri1 (rgk 0 rfl) (of0 hb0 run_st) (Nat.le_of_ble_eq_true rfl) ⟨(Nat.le_of_ble_eq_true rfl), (Nat.le_of_ble_eq_true rfl)⟩ dL_runs_3 (fun H locs hI _ => ?_)
  refine lv_iload_n C.1.1 C.1.2.1 dL_runs_6 rfl (lv_at hl 2 rfl) ?_
  refine fl_icmp_ne (tgt := 58) C.1 ri2 ri2 dL_runs_7 (by decide) (fun h => absurd rfl h) (fun _ => ?_)
  refine lv_aload_n C.1.1 C.1.2.1 dL_runs_10 rfl (lv_at hl 0 rfl) ?_
  refine lv_iload_n C.1.1 C.1.2.1 dL_runs_11 rfl (lv_at hl 1 rfl) ?_
  refine fl_iconst C.1 dL_runs_12 ?_
  refine j_run hst C (by exact ⟨(Nat.le_of_ble_eq_true rfl), (Nat.le_of_ble_eq_true rfl)⟩) hI hl.1 ri1 (rgk 1 rfl) (of0 hb1 run_st) (Nat.le_of_ble_eq_true rfl) ⟨(Nat.le_of_ble_eq_true rfl), (Nat.le_of_ble_eq_true rfl)⟩ dL_runs_13 (fun H locs hI _ => ?_)
  refine lv_iload_n C.1.1 C.1.2.1 dL_runs_16 rfl (lv_at hl 3 rfl) ?_
  refine fl_icmp_ne (tgt := 58) C.1 ri3 ri3 dL_runs_17 (by decide) (fun h => absurd rfl h) (fun _ => ?_)
  refine lv_aload_n C.1.1 C.1.2.1 dL_runs_20 rfl (lv_at hl 0 rfl) ?_
  refine lv_iload_n C.1.1 C.1.2.1 dL_runs_21 rfl (lv_at hl 1 rfl) ?_
  refine fl_iconst C.1 dL_runs_22 ?_
  refine j_run hst C (by exact ⟨(Nat.le_of_ble_eq_true rfl), (Nat.le_of_ble_eq_true rfl)⟩) hI hl.1 ri1 (rgk 2 rfl) (of0 hb2 run_st) (Nat.le_of_ble_eq_true rfl) ⟨(Nat.le_of_ble_eq_true rfl), (Nat.le_of_ble_eq_true rfl)⟩ dL_runs_23 (fun H locs hI _ => ?_)
  refine lv_iload C.1.1 C.1.2.1 dL_runs_26 (lv_at hl 4 rfl) ?_
  refine fl_icmp_ne (tgt := 58) C.1 ri4 ri4 dL_runs_28 (by decide) (fun h => absurd rfl h) (fun _ => ?_)
  refine lv_aload_n C.1.1 C.1.2.1 dL_runs_31 rfl (lv_at hl 0 rfl) ?_
  refine lv_iload_n C.1.1 C.1.2.1 dL_runs_32 rfl (lv_at hl 1 rfl) ?_
  refine fl_iconst C.1 dL_runs_33 ?_
  refine j_run hst C (by exact ⟨(Nat.le_of_ble_eq_true rfl), (Nat.le_of_ble_eq_true rfl)⟩) hI hl.1 ri1 (rgk 3 rfl) (of0 hb3 run_st) (Nat.le_of_ble_eq_true rfl) ⟨(Nat.le_of_ble_eq_true rfl), (Nat.le_of_ble_eq_true rfl)⟩ dL_runs_34 (fun H locs hI _ => ?_)
  refine lv_iload C.1.1 C.1.2.1 dL_runs_37 (lv_at hl 5 rfl) ?_
  refine fl_icmp_ne (tgt := 58) C.1 ri5 ri5 dL_runs_39 (by decide) (fun h => absurd rfl h) (fun _ => ?_)
  refine lv_aload_n C.1.1 C.1.2.1 dL_runs_42 rfl (lv_at hl 0 rfl) ?_
  refine lv_iload_n C.1.1 C.1.2.1 dL_runs_43 rfl (lv_at hl 1 rfl) ?_
  refine fl_bipush C.1 dL_runs_44 (by decide) ?_
  refine j_run hst C (by exact ⟨(Nat.le_of_ble_eq_true rfl), (Nat.le_of_ble_eq_true rfl)⟩) hI hl.1 ri1 (rgk 10 rfl) (of0 hb4 run_st) (Nat.le_of_ble_eq_true rfl) ⟨(Nat.le_of_ble_eq_true rfl), (Nat.le_of_ble_eq_true rfl)⟩ dL_runs_46 (fun H locs hI _ => ?_)
  refine lv_iload C.1.1 C.1.2.1 dL_runs_49 (lv_at hl 6 rfl) ?_
  refine fl_icmp_ne (tgt := 58) C.1 ri6 ri6 dL_runs_51 (by decide) (fun h => absurd rfl h) (fun _ => ?_)
  refine fl_iconst C.1 dL_runs_54 ?_
  refine fl_goto (tgt := 59) C.1 dL_runs_55 (by decide) ?_
  exact k_zret C hI hr (rgk 1 rfl) (Or.inr rfl) dL_runs_59 (Nat.le_of_ble_eq_true rfl) (Nat.le_of_ble_eq_true rfl)
theorem k_qruns {i1 i2 i3 i4 i5 i6 : Int} (hst : l.stackTraces = false) (C : LC p s m meth c D cy B cc nL) (hR : 11 ≤ R.frames ∧ 310 ≤ R.locals) (hI : HI D cy B s.heap H locs x S) (hsz : ls.size = nL) (ri1 : rg i1) (ri2 : rg i2) (ri3 : rg i3) (ri4 : rg i4) (ri5 : rg i5) (ri6 : rg i6) (hb : rnB S i1 i2 i3 i4 i5 i6 = true) (hW : (rest.map fun v => v.category).sum ≤ 8) (hf : cells + 10 ≤ R.cells ∧ slots + 60 ≤ R.slots) (hdg : decode cc pc = .ok (.invokestatic 86, 3))
    (kk : ∀ (H : Heap) (locs : List Loc), HI D cy B s.heap H locs x S → rg 1 → W p l e R s m args below meth c H locs (cells + 10) (slots + 60) Q (F0 m (pc + 3) ls (iv 1 :: rest))) : W p l e R s m args below meth c H locs cells slots Q (F0 m pc ls (iv i6 :: iv i5 :: iv i4 :: iv i3 :: iv i2 :: iv i1 :: .ref x :: rest)) :=
  k_call C hI hsz (d_runs hst hb ri1 ri2 ri3 ri4 ri5 ri6) aw_814 aw_815 aw_44 aw_816 rfl pm_L_runs rfl rfl ⟨Nat.le_trans (Nat.le_of_ble_eq_true rfl) hR.1, Nat.le_trans (Nat.le_of_ble_eq_true rfl) hR.2⟩ rfl hW hdg hf kk
abbrev rm_L_entry : Room := { frames := 10, cells := 8, slots := 48, locals := 280 }
theorem pm_L_entry : plainM yL_entry 6 := by decide +kernel
set_option maxRecDepth 100000 in
set_option maxHeartbeats 4000000 in
theorem d_entry (hst : l.stackTraces = false) {i1 i2 i3 i4 i5 : Int} (hb : enB S i1 i2 i3 i4 i5 = true) (ri1 : rg i1) (ri2 : rg i2) (ri3 : rg i3) (ri4 : rg i4) (ri5 : rg i5) : Met l yL_entry [.code yL_entry cL_entry 6 (some .boolean)] rm_L_entry (va_Pc [.ref x, iv i1, iv i2, iv i3, iv i4, iv i5] (HW D cy B x S)) (HQ D cy B x 1 S) 8 48 (fun q => B ≤ q) := by
  simp only [enB, Bool.and_eq_true] at hb
  obtain ⟨⟨⟨hb0, hb1⟩, hb2⟩, hb3⟩ := hb
  refine hb_body (by decide) rfl (Nat.le_of_ble_eq_true rfl) ?_
  intro p e s m args below meth c ls C hr hI hl
  have hl : lv_has ls 6 [(0, .ref x), (1, iv i1), (2, iv i2), (3, iv i3), (4, iv i4), (5, iv i5)] := hl
  refine lv_aload_n C.1.1 C.1.2.1 dL_entry_0 rfl (lv_at hl 0 rfl) ?_
  refine lv_iload_n C.1.1 C.1.2.1 dL_entry_1 rfl (lv_at hl 1 rfl) ?_
  refine fl_iconst C.1 dL_entry_2 ?_
  refine j_entry hst C (by exact ⟨(Nat.le_of_ble_eq_true rfl), (Nat.le_of_ble_eq_true rfl)⟩) hI hl.1 ri1 (rgk 0 rfl) (of0 hb0 entry_st) (Nat.le_of_ble_eq_true rfl) ⟨(Nat.le_of_ble_eq_true rfl), (Nat.le_of_ble_eq_true rfl)⟩ dL_entry_3 (fun H locs hI _ => ?_)
  refine lv_iload_n C.1.1 C.1.2.1 dL_entry_6 rfl (lv_at hl 2 rfl) ?_
  refine fl_icmp_ne (tgt := 46) C.1 ri2 ri2 dL_entry_7 (by decide) (fun h => absurd rfl h) (fun _ => ?_)
  refine lv_aload_n C.1.1 C.1.2.1 dL_entry_10 rfl (lv_at hl 0 rfl) ?_
  refine lv_iload_n C.1.1 C.1.2.1 dL_entry_11 rfl (lv_at hl 1 rfl) ?_
  refine fl_iconst C.1 dL_entry_12 ?_
  refine j_entry hst C (by exact ⟨(Nat.le_of_ble_eq_true rfl), (Nat.le_of_ble_eq_true rfl)⟩) hI hl.1 ri1 (rgk 1 rfl) (of0 hb1 entry_st) (Nat.le_of_ble_eq_true rfl) ⟨(Nat.le_of_ble_eq_true rfl), (Nat.le_of_ble_eq_true rfl)⟩ dL_entry_13 (fun H locs hI _ => ?_)
  refine lv_iload_n C.1.1 C.1.2.1 dL_entry_16 rfl (lv_at hl 3 rfl) ?_
  refine fl_icmp_ne (tgt := 46) C.1 ri3 ri3 dL_entry_17 (by decide) (fun h => absurd rfl h) (fun _ => ?_)
  refine lv_aload_n C.1.1 C.1.2.1 dL_entry_20 rfl (lv_at hl 0 rfl) ?_
  refine lv_iload_n C.1.1 C.1.2.1 dL_entry_21 rfl (lv_at hl 1 rfl) ?_
  refine fl_iconst C.1 dL_entry_22 ?_
  refine j_entry hst C (by exact ⟨(Nat.le_of_ble_eq_true rfl), (Nat.le_of_ble_eq_true rfl)⟩) hI hl.1 ri1 (rgk 2 rfl) (of0 hb2 entry_st) (Nat.le_of_ble_eq_true rfl) ⟨(Nat.le_of_ble_eq_true rfl), (Nat.le_of_ble_eq_true rfl)⟩ dL_entry_23 (fun H locs hI _ => ?_)
  refine lv_iload C.1.1 C.1.2.1 dL_entry_26 (lv_at hl 4 rfl) ?_
  refine fl_icmp_ne (tgt := 46) C.1 ri4 ri4 dL_entry_28 (by decide) (fun h => absurd rfl h) (fun _ => ?_)
  refine lv_aload_n C.1.1 C.1.2.1 dL_entry_31 rfl (lv_at hl 0 rfl) ?_
  refine lv_iload_n C.1.1 C.1.2.1 dL_entry_32 rfl (lv_at hl 1 rfl) ?_
  refine fl_iconst C.1 dL_entry_33 ?_
  refine j_entry hst C (by exact ⟨(Nat.le_of_ble_eq_true rfl), (Nat.le_of_ble_eq_true rfl)⟩) hI hl.1 ri1 (rgk 3 rfl) (of0 hb3 entry_st) (Nat.le_of_ble_eq_true rfl) ⟨(Nat.le_of_ble_eq_true rfl), (Nat.le_of_ble_eq_true rfl)⟩ dL_entry_34 (fun H locs hI _ => ?_)
  refine lv_iload C.1.1 C.1.2.1 dL_entry_37 (lv_at hl 5 rfl) ?_
  refine fl_icmp_ne (tgt := 46) C.1 ri5 ri5 dL_entry_39 (by decide) (fun h => absurd rfl h) (fun _ => ?_)
  refine fl_iconst C.1 dL_entry_42 ?_
  refine fl_goto (tgt := 47) C.1 dL_entry_43 (by decide) ?_
  exact k_zret C hI hr (rgk 1 rfl) (Or.inr rfl) dL_entry_47 (Nat.le_of_ble_eq_true rfl) (Nat.le_of_ble_eq_true rfl)
theorem k_qentry {i1 i2 i3 i4 i5 : Int} (hst : l.stackTraces = false) (C : LC p s m meth c D cy B cc nL) (hR : 11 ≤ R.frames ∧ 310 ≤ R.locals) (hI : HI D cy B s.heap H locs x S) (hsz : ls.size = nL) (ri1 : rg i1) (ri2 : rg i2) (ri3 : rg i3) (ri4 : rg i4) (ri5 : rg i5) (hb : enB S i1 i2 i3 i4 i5 = true) (hW : (rest.map fun v => v.category).sum ≤ 8) (hf : cells + 8 ≤ R.cells ∧ slots + 48 ≤ R.slots) (hdg : decode cc pc = .ok (.invokestatic 113, 3))
    (kk : ∀ (H : Heap) (locs : List Loc), HI D cy B s.heap H locs x S → rg 1 → W p l e R s m args below meth c H locs (cells + 8) (slots + 48) Q (F0 m (pc + 3) ls (iv 1 :: rest))) : W p l e R s m args below meth c H locs cells slots Q (F0 m pc ls (iv i5 :: iv i4 :: iv i3 :: iv i2 :: iv i1 :: .ref x :: rest)) :=
  k_call C hI hsz (d_entry hst hb ri1 ri2 ri3 ri4 ri5) aw_821 aw_822 aw_44 aw_823 rfl pm_L_entry rfl rfl ⟨Nat.le_trans (Nat.le_of_ble_eq_true rfl) hR.1, Nat.le_trans (Nat.le_of_ble_eq_true rfl) hR.2⟩ rfl hW hdg hf kk
abbrev rm_L_board : Room := { frames := 10, cells := 8, slots := 48, locals := 280 }
theorem pm_L_board : plainM yL_board 7 := by decide +kernel
set_option maxRecDepth 100000 in
set_option maxHeartbeats 4000000 in
theorem d_board (hst : l.stackTraces = false) {i1 i2 i3 i4 i5 i6 : Int} (hb : bdB S i1 i2 i3 i4 i5 i6 = true) (ri1 : rg i1) (ri2 : rg i2) (ri3 : rg i3) (ri4 : rg i4) (ri5 : rg i5) (ri6 : rg i6) : Met l yL_board [.code yL_board cL_board 7 (some .boolean)] rm_L_board (va_Pc [.ref x, iv i1, iv i2, iv i3, iv i4, iv i5, iv i6] (HW D cy B x S)) (HQ D cy B x 1 S) 8 48 (fun q => B ≤ q) := by
  simp only [bdB, Bool.and_eq_true] at hb
  obtain ⟨⟨⟨hb0, hb1⟩, hb2⟩, hb3⟩ := hb
  refine hb_body (by decide) rfl (Nat.le_of_ble_eq_true rfl) ?_
  intro p e s m args below meth c ls C hr hI hl
  have hl : lv_has ls 7 [(0, .ref x), (1, iv i1), (2, iv i2), (3, iv i3), (4, iv i4), (5, iv i5), (6, iv i6)] := hl
  refine lv_aload_n C.1.1 C.1.2.1 dL_board_0 rfl (lv_at hl 0 rfl) ?_
  refine lv_iload_n C.1.1 C.1.2.1 dL_board_1 rfl (lv_at hl 1 rfl) ?_
  refine lv_iload_n C.1.1 C.1.2.1 dL_board_2 rfl (lv_at hl 2 rfl) ?_
  refine fl_iconst C.1 dL_board_3 ?_
  refine j_board hst C (by exact ⟨(Nat.le_of_ble_eq_true rfl), (Nat.le_of_ble_eq_true rfl)⟩) hI hl.1 ri1 ri2 (rgk 0 rfl) (of0 hb0 board_st) (Nat.le_of_ble_eq_true rfl) ⟨(Nat.le_of_ble_eq_true rfl), (Nat.le_of_ble_eq_true rfl)⟩ dL_board_4 (fun H locs hI _ => ?_)
  refine lv_iload_n C.1.1 C.1.2.1 dL_board_7 rfl (lv_at hl 3 rfl) ?_
  refine fl_icmp_ne (tgt := 51) C.1 ri3 ri3 dL_board_8 (by decide) (fun h => absurd rfl h) (fun _ => ?_)
  refine lv_aload_n C.1.1 C.1.2.1 dL_board_11 rfl (lv_at hl 0 rfl) ?_
  refine lv_iload_n C.1.1 C.1.2.1 dL_board_12 rfl (lv_at hl 1 rfl) ?_
  refine lv_iload_n C.1.1 C.1.2.1 dL_board_13 rfl (lv_at hl 2 rfl) ?_
  refine fl_iconst C.1 dL_board_14 ?_
  refine j_board hst C (by exact ⟨(Nat.le_of_ble_eq_true rfl), (Nat.le_of_ble_eq_true rfl)⟩) hI hl.1 ri1 ri2 (rgk 1 rfl) (of0 hb1 board_st) (Nat.le_of_ble_eq_true rfl) ⟨(Nat.le_of_ble_eq_true rfl), (Nat.le_of_ble_eq_true rfl)⟩ dL_board_15 (fun H locs hI _ => ?_)
  refine lv_iload C.1.1 C.1.2.1 dL_board_18 (lv_at hl 4 rfl) ?_
  refine fl_icmp_ne (tgt := 51) C.1 ri4 ri4 dL_board_20 (by decide) (fun h => absurd rfl h) (fun _ => ?_)
  refine lv_aload_n C.1.1 C.1.2.1 dL_board_23 rfl (lv_at hl 0 rfl) ?_
  refine lv_iload_n C.1.1 C.1.2.1 dL_board_24 rfl (lv_at hl 1 rfl) ?_
  refine lv_iload_n C.1.1 C.1.2.1 dL_board_25 rfl (lv_at hl 2 rfl) ?_
  refine fl_iconst C.1 dL_board_26 ?_
  refine j_board hst C (by exact ⟨(Nat.le_of_ble_eq_true rfl), (Nat.le_of_ble_eq_true rfl)⟩) hI hl.1 ri1 ri2 (rgk 2 rfl) (of0 hb2 board_st) (Nat.le_of_ble_eq_true rfl) ⟨(Nat.le_of_ble_eq_true rfl), (Nat.le_of_ble_eq_true rfl)⟩ dL_board_27 (fun H locs hI _ => ?_)
  refine lv_iload C.1.1 C.1.2.1 dL_board_30 (lv_at hl 5 rfl) ?_
  refine fl_icmp_ne (tgt := 51) C.1 ri5 ri5 dL_board_32 (by decide) (fun h => absurd rfl h) (fun _ => ?_)
  refine lv_aload_n C.1.1 C.1.2.1 dL_board_35 rfl (lv_at hl 0 rfl) ?_
  refine lv_iload_n C.1.1 C.1.2.1 dL_board_36 rfl (lv_at hl 1 rfl) ?_
  refine lv_iload_n C.1.1 C.1.2.1 dL_board_37 rfl (lv_at hl 2 rfl) ?_
  refine fl_iconst C.1 dL_board_38 ?_
  refine j_board hst C (by exact ⟨(Nat.le_of_ble_eq_true rfl), (Nat.le_of_ble_eq_true rfl)⟩) hI hl.1 ri1 ri2 (rgk 3 rfl) (of0 hb3 board_st) (Nat.le_of_ble_eq_true rfl) ⟨(Nat.le_of_ble_eq_true rfl), (Nat.le_of_ble_eq_true rfl)⟩ dL_board_39 (fun H locs hI _ => ?_)
  refine lv_iload C.1.1 C.1.2.1 dL_board_42 (lv_at hl 6 rfl) ?_
  refine fl_icmp_ne (tgt := 51) C.1 ri6 ri6 dL_board_44 (by decide) (fun h => absurd rfl h) (fun _ => ?_)
  refine fl_iconst C.1 dL_board_47 ?_
  refine fl_goto (tgt := 52) C.1 dL_board_48 (by decide) ?_
  exact k_zret C hI hr (rgk 1 rfl) (Or.inr rfl) dL_board_52 (Nat.le_of_ble_eq_true rfl) (Nat.le_of_ble_eq_true rfl)
theorem k_qboard {i1 i2 i3 i4 i5 i6 : Int} (hst : l.stackTraces = false) (C : LC p s m meth c D cy B cc nL) (hR : 11 ≤ R.frames ∧ 310 ≤ R.locals) (hI : HI D cy B s.heap H locs x S) (hsz : ls.size = nL) (ri1 : rg i1) (ri2 : rg i2) (ri3 : rg i3) (ri4 : rg i4) (ri5 : rg i5) (ri6 : rg i6) (hb : bdB S i1 i2 i3 i4 i5 i6 = true) (hW : (rest.map fun v => v.category).sum ≤ 8) (hf : cells + 8 ≤ R.cells ∧ slots + 48 ≤ R.slots) (hdg : decode cc pc = .ok (.invokestatic 116, 3))
    (kk : ∀ (H : Heap) (locs : List Loc), HI D cy B s.heap H locs x S → rg 1 → W p l e R s m args below meth c H locs (cells + 8) (slots + 48) Q (F0 m (pc + 3) ls (iv 1 :: rest))) : W p l e R s m args below meth c H locs cells slots Q (F0 m pc ls (iv i6 :: iv i5 :: iv i4 :: iv i3 :: iv i2 :: iv i1 :: .ref x :: rest)) :=
  k_call C hI hsz (d_board hst hb ri1 ri2 ri3 ri4 ri5 ri6) aw_824 aw_825 aw_44 aw_826 rfl pm_L_board rfl rfl ⟨Nat.le_trans (Nat.le_of_ble_eq_true rfl) hR.1, Nat.le_trans (Nat.le_of_ble_eq_true rfl) hR.2⟩ rfl hW hdg hf kk
end HHelp
