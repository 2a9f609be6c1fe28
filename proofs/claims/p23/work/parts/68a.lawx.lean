/-! THE LAW'S LOOP: the script's number -/
theorem ofN {n : Nat} : Int32.ofNat n = Int32.ofInt (n : Int) := by simp [Int32.ofInt, Int32.ofNat]
theorem sh31 : ∀ m : Nat, m < 32 → ((Int32.ofInt (m : Int)).toUInt32 &&& Int32.toUInt32 31).toNat = m := by decide +kernel
theorem ush {v : Int32} {m q : Nat} (hm : m < 32) (h : v.toUInt32.toNat >>> m = q) (hq : q < 2147483648) : (v.toUInt32 >>> ((Int32.ofInt (m : Int)).toUInt32 &&& Int32.toUInt32 31)).toInt32 = Int32.ofInt (q : Int) := by
  have e1 : (v.toUInt32 >>> ((Int32.ofInt (m : Int)).toUInt32 &&& Int32.toUInt32 31)).toNat = q := by
    rw [UInt32.toNat_shiftRight, sh31 m hm, Nat.mod_eq_of_lt hm, h]
  rw [← Int32.toInt_inj, fl_tI (x := (q : Int)) ⟨by omega, by omega⟩]
  show (v.toUInt32 >>> ((Int32.ofInt (m : Int)).toUInt32 &&& Int32.toUInt32 31)).toBitVec.toInt = (q : Int)
  have e2 : (v.toUInt32 >>> ((Int32.ofInt (m : Int)).toUInt32 &&& Int32.toUInt32 31)).toBitVec.toNat = q := e1
  rw [BitVec.toInt_eq_toNat_of_lt (by rw [e2]; omega), e2]
theorem u32_nn {y : Int} (hy : 0 ≤ y ∧ y < 2147483648) : (Int32.ofInt y).toUInt32.toNat = y.toNat := by
  show (BitVec.ofInt 32 y).toNat = y.toNat
  rw [BitVec.toNat_ofInt]
  omega
abbrev lvA (b x : Nat) (S : Hl) (k : Nat) : List (Nat × Value) := [(5, iv (k : Int)), (0, .ref b), (1, .ref x), (2, iv (S.np : Int)), (3, iv (S.ne : Int)), (4, iv S.min)]
abbrev lvB (b x : Nat) (S : Hl) (k : Nat) (y z : Int) : List (Nat × Value) := (8, iv y) :: (9, iv z) :: lvA b x S k
abbrev okY (y z : Int) : Prop := (0 ≤ y ∧ y < 1048576) ∧ (0 ≤ z ∧ z < 65536)
def LX (p : Program) (s : State) (m : MethodId) (meth : Method) (c : Code) (D : va_G) (cy : Nat → ClassId) (b N : Nat) (xs : Nat → Int32) : Prop := LC p s m meth c D cy s.heap.size cL_law 14 ∧ va_X b N xs s s.heap ∧ b < s.heap.size
section LL1
variable {p : Program} {l : Launch} {e : Env} {s : State} {m : MethodId} {args : Array Value} {below : List Frame} {meth : Method} {c : Code} {H : Heap} {locs : List Loc} {cells slots : Nat} {Q : State → Prop}
variable {D : va_G} {cy : Nat → ClassId} {b N x k : Nat} {xs : Nat → Int32} {ls : Array Slot} {rest : List Value} {S T : Hl} {w y z : Int}
/-- what is drawn: the script's number, and what is taken of it -/
theorem law_x (X : LX p s m meth c D cy b N xs) (hN : N ≤ 260) (hk : k < 80) (hS : va_S (fun q : Nat => s.heap.size ≤ q) s.heap H locs) (hl : lv_has ls 14 (lvA b x S k))
    (kk : ∀ (ls : Array Slot) (w y z : Int), (0 ≤ w ∧ w < 16) → okY y z → lv_has ls 14 ((7, iv w) :: lvB b x S k y z) → W p l e room_1 s m args below meth c H locs cells slots Q (F0 m 79 ls [])) : W p l e room_1 s m args below meth c H locs cells slots Q (F0 m 33 ls []) := by
  obtain ⟨C, hX, hbl⟩ := X
  have mid : ∀ u : Int, (0 ≤ u ∧ u < 16777216) → W p l e room_1 s m args below meth c H locs cells slots Q (F0 m 56 ls [iv u]) := fun u hu => by
    refine lv_istore (lv' := (6, iv u) :: lvA b x S k) C.1.1 C.1.2.1 dL_law_56 hl (by decide) rfl (fun ls hl => ?_)
    refine lv_iload C.1.1 C.1.2.1 dL_law_58 (lv_at hl 0 rfl) ?_
    refine fl_bipush C.1 dL_law_60 (by decide) ?_
    refine h_irem C.1 (by omega) (by decide) rfl dL_law_62 ?_
    refine lv_istore (lv' := (7, iv (u % 16)) :: (6, iv u) :: lvA b x S k) C.1.1 C.1.2.1 dL_law_63 hl (by decide) rfl (fun ls hl => ?_)
    refine lv_iload C.1.1 C.1.2.1 dL_law_65 (lv_at hl 1 rfl) ?_
    refine fl_bipush C.1 dL_law_67 (by decide) ?_
    refine h_idiv C.1 (by omega) (by decide) rfl dL_law_69 ?_
    refine lv_istore (lv' := (8, iv (u / 16)) :: (7, iv (u % 16)) :: (6, iv u) :: lvA b x S k) C.1.1 C.1.2.1 dL_law_70 hl (by decide) rfl (fun ls hl => ?_)
    refine lv_iload C.1.1 C.1.2.1 dL_law_72 (lv_at hl 0 rfl) ?_
    refine fl_bipush C.1 dL_law_74 (by decide) ?_
    refine h_idiv C.1 (by omega) (by decide) rfl dL_law_76 ?_
    refine lv_istore (lv' := (9, iv (u / 16 / 20)) :: (8, iv (u / 16)) :: (7, iv (u % 16)) :: (6, iv u) :: lvA b x S k) C.1.1 C.1.2.1 dL_law_77 hl (by decide) rfl (fun ls hl => ?_)
    exact kk ls (u % 16) (u / 16) (u / 16 / 20) (by omega) (by omega) (lv_sub hl [2, 1, 0, 4, 5, 6, 7, 8, 9] rfl)
  refine lv_aload_n C.1.1 C.1.2.1 dL_law_33 rfl (lv_at hl 1 rfl) ?_
  refine va_slen C.1.1 C.1.2.1 hX hbl (Nat.not_le.mpr hbl) hS dL_law_34 ?_
  rw [ofN]
  refine fl_if_ne (tgt := 46) C.1 ⟨by omega, by omega⟩ dL_law_35 (by decide) (fun hz => ?_) (fun hz => ?_)
  · refine lv_aload_n C.1.1 C.1.2.1 dL_law_46 rfl (lv_at hl 1 rfl) ?_
    refine lv_iload C.1.1 C.1.2.1 dL_law_47 (lv_at hl 0 rfl) ?_
    refine lv_aload_n C.1.1 C.1.2.1 dL_law_49 rfl (lv_at hl 1 rfl) ?_
    refine va_slen C.1.1 C.1.2.1 hX hbl (Nat.not_le.mpr hbl) hS dL_law_50 ?_
    rw [ofN]
    refine h_irem (z := ((k % N : Nat) : Int)) C.1 (by omega) (by omega) (by omega) dL_law_51 ?_
    have hlt : k % N < N := Nat.mod_lt _ (by omega)
    have rn : rg ((k % N : Nat) : Int) := ⟨by omega, by omega⟩
    refine va_sld C.1.1 C.1.2.1 hX hbl (Nat.not_le.mpr hbl) hS (of_in rn ⟨by omega, by omega⟩) dL_law_52 ?_
    rw [of_clamp rn, Int.toNat_natCast]
    refine fl_bipush C.1 dL_law_53 (by decide) ?_
    have hq : (xs (k % N)).toUInt32.toNat >>> 8 < 16777216 := by
      have h1 := (xs (k % N)).toUInt32.toNat_lt
      rw [Nat.shiftRight_eq_div_pow]
      omega
    refine lv_iushr C.1.1 C.1.2.1 dL_law_55 (ush (m := 8) (by decide) rfl (Nat.lt_trans hq (by decide))) ?_
    exact mid _ ⟨by omega, by omega⟩
  · refine fl_bipush C.1 dL_law_38 (by decide) ?_
    refine lv_iload C.1.1 C.1.2.1 dL_law_40 (lv_at hl 0 rfl) ?_
    refine h_imul (z := 103 * (k : Int)) C.1 (wr_id (by omega) (by omega)) dL_law_42 ?_
    refine fl_goto (tgt := 56) C.1 dL_law_43 (by decide) ?_
    exact mid _ ⟨by omega, by omega⟩
end LL1
