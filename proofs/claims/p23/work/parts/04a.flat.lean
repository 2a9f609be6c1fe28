/-! THE FLAT HEAP: all cells of class, reference and law in one pool: K tells what a cell is (a code), P its references, I its whole numbers (as Int), J its longs. -/
def rg (x : Int) : Prop := -2147483648 ≤ x ∧ x < 2147483648
abbrev iv (x : Int) : Value := .int (Int32.ofInt x)
abbrev lgv (x : Int) : Value := .long (Int64.ofInt x)
def wr (x : Int) : Int := (Int32.ofInt x).toInt
def wl (x : Int) : Int := (Int64.ofInt x).toInt
theorem rg_toInt (x : Int32) : rg x.toInt := ⟨Int32.le_toInt x, Int32.toInt_lt x⟩
theorem rg_wr (x : Int) : rg (wr x) := rg_toInt _
theorem of_wr (x : Int) : Int32.ofInt (wr x) = Int32.ofInt x := Int32.ofInt_toInt _
theorem fl_tI {x : Int} (h : rg x) : (Int32.ofInt x).toInt = x := Int32.toInt_ofInt_of_le h.1 h.2
theorem wr_id {x : Int} (h1 : -2147483648 ≤ x) (h2 : x < 2147483648) : wr x = x := fl_tI ⟨h1, h2⟩
theorem wr_rg {x : Int} (h : rg x) : wr x = x := fl_tI h
theorem of_add (x y : Int) : Int32.ofInt x + Int32.ofInt y = Int32.ofInt (wr (x + y)) := by rw [of_wr, Int32.ofInt_add]
theorem of_sub (x y : Int) : Int32.ofInt x - Int32.ofInt y = Int32.ofInt (wr (x - y)) := by rw [of_wr, Int32.ofInt_sub]
theorem of_mul (x y : Int) : Int32.ofInt x * Int32.ofInt y = Int32.ofInt (wr (x * y)) := by rw [of_wr, Int32.ofInt_mul]
theorem of_neg (x : Int) : - Int32.ofInt x = Int32.ofInt (wr (-x)) := by rw [of_wr, Int32.ofInt_neg]
theorem of_lt {x y : Int} (hx : rg x) (hy : rg y) : Int32.ofInt x < Int32.ofInt y ↔ x < y := by rw [Int32.lt_iff_toInt_lt, fl_tI hx, fl_tI hy]
theorem of_le {x y : Int} (hx : rg x) (hy : rg y) : Int32.ofInt x ≤ Int32.ofInt y ↔ x ≤ y := by rw [Int32.le_iff_toInt_le, fl_tI hx, fl_tI hy]
theorem of_eq {x y : Int} (hx : rg x) (hy : rg y) : Int32.ofInt x = Int32.ofInt y ↔ x = y := by rw [← Int32.toInt_inj, fl_tI hx, fl_tI hy]
theorem of_clamp {x : Int} (hx : rg x) : (Int32.ofInt x).toNatClampNeg = x.toNat := by
  show ((Int32.ofInt x).toInt).toNat = _
  rw [fl_tI hx]
theorem of_in {x : Int} {n : Nat} (hx : rg x) (h : 0 ≤ x ∧ x < n) : vp_in (Int32.ofInt x) n := by
  rw [vp_in_iff, fl_tI hx]
  exact h
-- longs
def rl (x : Int) : Prop := -9223372036854775808 ≤ x ∧ x < 9223372036854775808
theorem rl_toInt (x : Int64) : rl x.toInt := ⟨Int64.le_toInt x, Int64.toInt_lt x⟩
theorem rl_wl (x : Int) : rl (wl x) := rl_toInt _
theorem rl_rg {x : Int} (h : rg x) : rl x := ⟨by have := h.1; omega, by have := h.2; omega⟩
theorem lof_wl (x : Int) : Int64.ofInt (wl x) = Int64.ofInt x := Int64.ofInt_toInt _
theorem fl_tL {x : Int} (h : rl x) : (Int64.ofInt x).toInt = x := Int64.toInt_ofInt_of_le h.1 h.2
theorem wl_id {x : Int} (h1 : -9223372036854775808 ≤ x) (h2 : x < 9223372036854775808) : wl x = x := fl_tL ⟨h1, h2⟩
theorem lof_add (x y : Int) : Int64.ofInt x + Int64.ofInt y = Int64.ofInt (wl (x + y)) := by rw [lof_wl, Int64.ofInt_add]
theorem lof_sub (x y : Int) : Int64.ofInt x - Int64.ofInt y = Int64.ofInt (wl (x - y)) := by rw [lof_wl, Int64.ofInt_sub]
theorem lof_mul (x y : Int) : Int64.ofInt x * Int64.ofInt y = Int64.ofInt (wl (x * y)) := by rw [lof_wl, Int64.ofInt_mul]
theorem lof_lt {x y : Int} (hx : rl x) (hy : rl y) : Int64.ofInt x < Int64.ofInt y ↔ x < y := by rw [Int64.lt_iff_toInt_lt, fl_tL hx, fl_tL hy]
theorem lof_eq {x y : Int} (hx : rl x) (hy : rl y) : Int64.ofInt x = Int64.ofInt y ↔ x = y := by rw [← Int64.toInt_inj, fl_tL hx, fl_tL hy]
theorem of_i2l {x : Int} (hx : rg x) : (Int32.ofInt x).toInt64 = Int64.ofInt x := by
  rw [← Int64.toInt_inj, Int32.toInt_toInt64, fl_tI hx, fl_tL (rl_rg hx)]
theorem lof_l2i (x : Int) : (Int64.ofInt x).toInt32 = Int32.ofInt (wr x) := by rw [of_wr, Int64.toInt32_ofInt]
/-- compare of longs, as lcmp answers -/
def cmpl (x y : Int) : Int := if x < y then -1 else if x = y then 0 else 1
theorem rg_cmpl (x y : Int) : rg (cmpl x y) := by unfold cmpl rg; split; decide; split <;> decide
-- bits
def ban (x y : Int) : Int := (Int32.ofInt x &&& Int32.ofInt y).toInt
def bor (x y : Int) : Int := (Int32.ofInt x ||| Int32.ofInt y).toInt
def bxo (x y : Int) : Int := (Int32.ofInt x ^^^ Int32.ofInt y).toInt
def bsl (x y : Int) : Int := (Int32.ofInt x <<< (Int32.ofInt y &&& 31)).toInt
def bsr (x y : Int) : Int := (Int32.ofInt x >>> (Int32.ofInt y &&& 31)).toInt
theorem rg_ban (x y : Int) : rg (ban x y) := rg_toInt _
theorem rg_bor (x y : Int) : rg (bor x y) := rg_toInt _
theorem rg_bxo (x y : Int) : rg (bxo x y) := rg_toInt _
theorem rg_bsl (x y : Int) : rg (bsl x y) := rg_toInt _
theorem rg_bsr (x y : Int) : rg (bsr x y) := rg_toInt _
def idv (x y : Int) : Int := (Int32.ofInt x / Int32.ofInt y).toInt
theorem rg_idv (x y : Int) : rg (idv x y) := rg_toInt _
theorem of_toInt (x : Int32) : Int32.ofInt x.toInt = x := Int32.ofInt_toInt x
-- state
abbrev IT : Type := Nat → Nat → Int
abbrev PT : Type := Nat → Nat → Nat
abbrev KT : Type := Nat → Nat
def up {α : Type} (f : Nat → Nat → α) (a k : Nat) (v : α) : Nat → Nat → α := fun b j => if b = a ∧ j = k then v else f b j
theorem up_s {α : Type} (f : Nat → Nat → α) (a k : Nat) (v : α) : up f a k v a k = v := by simp [up]
theorem up_a {α : Type} (f : Nat → Nat → α) {a b : Nat} (k j : Nat) (v : α) (h : b ≠ a) : up f a k v b j = f b j := by simp [up, h]
theorem up_k {α : Type} (f : Nat → Nat → α) (a b : Nat) {k j : Nat} (v : α) (h : j ≠ k) : up f a k v b j = f b j := by simp [up, h]
def rgI (I : IT) : Prop := ∀ a k, rg (I a k)
theorem rgI_up {I : IT} (h : rgI I) (a k : Nat) {v : Int} (hv : rg v) : rgI (up I a k v) := by
  intro b j
  unfold up
  split
  · exact hv
  · exact h b j
/-- a row copied into a row: dst[dp .. dp+n) := src[sp ..) -/
def cpy (I : IT) (b a sp dp n : Nat) : IT := fun c j => if c = a ∧ dp ≤ j ∧ j < dp + n then I b (sp + (j - dp)) else I c j
theorem rgI_cpy {I : IT} (h : rgI I) (b a sp dp n : Nat) : rgI (cpy I b a sp dp n) := by
  intro c j
  unfold cpy
  split <;> exact h _ _
/-- a new cell: all its numbers 0 -/
def clr (I : IT) (q : Nat) : IT := fun b j => if b = q then 0 else I b j
theorem rgI_clr {I : IT} (h : rgI I) (q : Nat) : rgI (clr I q) := by
  intro b j
  unfold clr
  split
  · exact ⟨by decide, by decide⟩
  · exact h b j
-- codes: 1..9 objects by their place in vwCl, 10 11 12 lists (of problems, entries, trials), 20 + i objects being made, from 100: arrays: 100 + 4 n + kind (0 int, 1 boolean, 2 references, 3 long)
def kci (c : Nat) : Nat := if c < 10 then c else if c < 20 then 0 else c - 20
def knf (i : Nat) : Nat := match i with
  | 0 => 3 | 1 => 8 | 2 => 5 | 3 => 7 | 4 => 3 | 5 => 2 | 6 => 5 | 7 => 3 | 8 => 12 | _ => 39
def krf (i k : Nat) : Bool := match i with
  | 0 => k == 1
  | 1 => k == 1 || k == 3
  | 2 => k == 0 || k == 1
  | 3 => k == 2 || k == 3 || k == 4
  | 4 => k == 0 || k == 1
  | 5 => k == 0
  | 6 => true
  | 7 => k == 0 || k == 1
  | 8 => decide (k < 10)
  | _ => !(k == 0 || k == 6 || k == 13 || k == 23 || k == 25 || k == 26 || k == 27 || k == 30 || k == 31 || k == 38)
/-- 0: null; 1: ArrayList's empty row; else the cell itself -/
def rfo (cy : Nat → ClassId) (n : Nat) : Option Nat := if n = 0 then none else if n = 1 then some (cy 7) else some n
theorem rfo_ne {cy : Nat → ClassId} {n : Nat} (h : 1 < n) : va_rf (rfo cy n) = .ref n := by
  have h1 : n ≠ 0 := by omega
  have h2 : n ≠ 1 := by omega
  simp [rfo, h1, h2, va_rf]
theorem rfo_1 {cy : Nat → ClassId} : va_rf (rfo cy 1) = .ref (cy 7) := rfl
def fval (cy : Nat → ClassId) (P : PT) (I : IT) (i a k : Nat) : Value := if krf i k = true then va_rf (rfo cy (P a k)) else iv (I a k)
def fobj (cy : Nat → ClassId) (P : PT) (I : IT) (i a : Nat) : List Value := (List.range (knf i)).map (fval cy P I i a)
def farr (cy : Nat → ClassId) (P : PT) (J I : IT) (kd a : Nat) : (Nat → Int32) ⊕ (Nat → Int64) ⊕ (Nat → UInt32) ⊕ (Nat → UInt64) ⊕ (Nat → Option Nat) :=
  if kd = 2 then .inr (.inr (.inr (.inr (fun j => rfo cy (P a j))))) else if kd = 3 then .inr (.inl (fun j => Int64.ofInt (J a j))) else .inl (fun j => Int32.ofInt (I a j))
def fcell (cy : Nat → ClassId) (K : KT) (P : PT) (J I : IT) (a : Nat) : va_E :=
  if K a < 100 then .inr (kci (K a), fobj cy P I (kci (K a)) a) else .inl (cy (K a % 4), ((K a - 100) / 4, farr cy P J I (K a % 4) a))
def ctys (cy : Nat → ClassId) : List (ClassId × FieldType) := [(cy 0, .int), (cy 1, .boolean), (cy 2, .object "java/lang/Object")]
-- the tables' words that a state keeps as it warms
def mvW : Cond → Bool
  | .fieldLinkNest .. => true
  | .methodLinkNest .. => true
  | .castable .. => true
  | .declares _ => true
  | w => goodWord w
theorem mvW_moved {w : Cond} (hw : mvW w = true) {s U : State} (hW : s.WarmedH U.vm) (h : va_Nw w s) : va_Nw w U := by
  unfold mvW at hw
  split at hw
  · exact va_Nw.warmF hW h
  · exact va_Nw.warmM hW h
  · exact va_Nw.warmC hW h
  · exact va_tabs rfl (rfl : (s.setVm U.vm).vm = U.vm) (by rw [Cond.declares_setVm hW.alike]; exact h)
  · exact word_at hW (good_of_word hw) h
theorem mvW_use {w : Cond} (hw : mvW w = true) {s : State} {A : Array Value} (h : va_Nw w s) : w.before A s = true := by
  unfold mvW at hw
  split at hw
  · exact va_Nw.use rfl h
  · exact va_Nw.use rfl h
  · exact va_Nw.use rfl h
  · exact va_Nw.use rfl h
  · exact word_at (State.WarmedH.refl s) (good_of_word hw) h
theorem mvW_of {w : Cond} (hw : mvW w = true) {s : State} {A : Array Value} (h : w.before A s = true) : va_Nw w s := by
  unfold mvW at hw
  split at hw
  · exact va_Nw.of rfl h
  · exact va_Nw.of rfl h
  · exact va_Nw.of rfl h
  · exact va_Nw.of rfl h
  · exact word_at (State.WarmedH.refl s) (good_of_word hw) h
def AW : List Cond := lw_tbl.filter mvW
theorem aw_of {w : Cond} {i : Nat} (h : lw_tbl[i]? = some w) (hm : mvW w = true) : w ∈ AW := List.mem_filter.mpr ⟨List.mem_of_getElem? h, hm⟩
/-- the texts of the class's throws -/
def txts : List (Nat × String) := [(297, "an argument is out of range"), (77, "the program has 16 instructions"), (87, "the input has 4 numbers"), (111, "there are 6 problems"), (300, "there is no such number"), (141, "the problem has 12 tests"), (147, "the solution has no answer"), (165, "a test would have no answer"), (179, "the place is below 0"), (189, "there are 60 entries"), (199, "the minute would be above 9999"), (285, "the team did not solve the problem"), (287, "the entry is its own, or not RIGHT"), (289, "the input can't be a test")]
/-- what every method finds of the tables -/
def FK (D : va_G) (cy : Nat → ClassId) (U : State) : Prop := va_K D vwCl (ctys cy) U ∧ (∀ w ∈ AW, va_Nw w U) ∧ (∀ t ∈ txts, ∃ a, vk_R "RejudgeHall" t.1 t.2 a U) ∧ va_AO "java/lang/Object" U ∧ ∃ mi, va_Mi "[Ljava/lang/Object;" mi U
theorem FK.moved {D : va_G} {cy : Nat → ClassId} {s U : State} (hW : s.WarmedH U.vm) (h : FK D cy s) : FK D cy U := ⟨va_K.moved hW.alike h.1, fun w hw => mvW_moved (List.mem_filter.mp hw).2 hW (h.2.1 w hw), fun t ht => (h.2.2.1 t ht).imp fun _ q => vk_R.warm hW q, va_AO.moved hW.alike h.2.2.2.1, h.2.2.2.2.imp fun _ q => va_Mi.moved hW.alike q⟩
theorem FK.use {D : va_G} {cy : Nat → ClassId} {s : State} (h : FK D cy s) {A : Array Value} : ∀ w ∈ AW, w.before A s = true := fun w hw => mvW_use (List.mem_filter.mp hw).2 (h.2.1 w hw)
theorem FK.same {D : va_G} {cy : Nat → ClassId} {s U : State} (hvm : s.vm = U.vm) (h : FK D cy s) : FK D cy U := FK.moved (by rw [← hvm]; exact State.WarmedH.refl s) h
/-- Throwable's two statics, and ArrayList's empty row (at cy 7), as they lie in a state of heap H -/
def FZ (cy : Nat → ClassId) (B : Nat) (U : State) (H : Heap) : Prop := (vx_Zq Bundle.tN "UNASSIGNED_STACK" Bundle.steD (fun q => B ≤ q) U H ∧ vx_Zq Bundle.tN "SUPPRESSED_SENTINEL" Bundle.listD (fun q => B ≤ q) U H) ∧ va_Z "java/util/ArrayList" "DEFAULTCAPACITY_EMPTY_ELEMENTDATA" "[Ljava/lang/Object;" (.ref (cy 7)) (fun q => B ≤ q) U H ∧ va_T (.object "java/lang/Object") (cy 7) 0 (fun _ => .null) (fun q => B ≤ q) U H
theorem FZ.moved {cy : Nat → ClassId} {B : Nat} {u U : State} {H : Heap} (hvm : u.vm.Alike U.vm) (h : FZ cy B u H) : FZ cy B U H := ⟨⟨vx_Zq.moved hvm h.1.1, vx_Zq.moved hvm h.1.2⟩, va_Z.moved hvm h.2.1, va_T.moved hvm h.2.2⟩
theorem FZ.kept {cy : Nat → ClassId} {B : Nat} {U : State} {H H1 : Heap} (h : FZ cy B U H) (hq : ∀ a : Nat, a < H.size → ¬ B ≤ a → H1[a]? = H[a]?) : FZ cy B U H1 := ⟨⟨h.1.1.kept hq, h.1.2.kept hq⟩, h.2.1.kept hq, h.2.2.kept hq⟩
