def gok (c ci k : Nat) (b : Bool) : Bool := c != 0 && decide (c < 100) && kci c == ci && decide (k < knf ci) && krf ci k == b
theorem gok_of {c ci k : Nat} {b : Bool} (h : gok c ci k b = true) : c ≠ 0 ∧ c < 100 ∧ kci c = ci ∧ k < knf ci ∧ krf ci k = b := by
  simp only [gok, Bool.and_eq_true, bne_iff_ne, decide_eq_true_eq, beq_iff_eq] at h
  exact ⟨h.1.1.1.1, h.1.1.1.2, h.1.1.2, h.1.2, h.2⟩
def cok (c ci : Nat) : Bool := c != 0 && decide (c < 100) && kci c == ci
theorem cok_of {c ci : Nat} (h : cok c ci = true) : c ≠ 0 ∧ c < 100 ∧ kci c = ci := by
  simp only [cok, Bool.and_eq_true, bne_iff_ne, decide_eq_true_eq, beq_iff_eq] at h
  exact ⟨h.1.1, h.1.2, h.2⟩
theorem iv_toInt (z : Int32) : iv z.toInt = .int z := congrArg Value.int (of_toInt z)
section FI
variable {p : Program} {l : Launch} {e : Env} {R : Room} {s : State} {m : MethodId} {args : Array Value} {below : List Frame} {meth : Method} {c : Code} {H : Heap} {locs : List Loc} {cells slots : Nat} {Q : State → Prop}
variable {D : va_G} {cy : Nat → ClassId} {B : Nat} {L : List Nat} {K : KT} {P : PT} {J I : IT} {own : String} {cc : ByteArray} {nL pc : Nat} {ls : Array Slot} {rest : List Value} {H0 : Heap}
theorem fl_iconst {n : Int} (C0 : FC D cy B p s m meth c own cc nL) (hdg : decode cc pc = .ok (.iconst n, 1)) (k : W p l e R s m args below meth c H locs cells slots Q (F0 m (pc + 1) ls (iv n :: rest))) : W p l e R s m args below meth c H locs cells slots Q (F0 m pc ls rest) := lv_iconst C0.1 C0.2.1 hdg rfl k
theorem fl_bipush {n : Int} (C0 : FC D cy B p s m meth c own cc nL) (hdg : decode cc pc = .ok (.bipush n, 2)) (hv : (Int8.ofInt n).toInt32 = Int32.ofInt n) (k : W p l e R s m args below meth c H locs cells slots Q (F0 m (pc + 2) ls (iv n :: rest))) : W p l e R s m args below meth c H locs cells slots Q (F0 m pc ls rest) := lv_bipush C0.1 C0.2.1 hdg hv k
theorem fl_sipush {n : Int} (C0 : FC D cy B p s m meth c own cc nL) (hdg : decode cc pc = .ok (.sipush n, 3)) (hv : (Int16.ofInt n).toInt32 = Int32.ofInt n) (k : W p l e R s m args below meth c H locs cells slots Q (F0 m (pc + 3) ls (iv n :: rest))) : W p l e R s m args below meth c H locs cells slots Q (F0 m pc ls rest) := lv_sipush C0.1 C0.2.1 hdg hv k
theorem fl_ldc {n : Int} {v : Int32} {idx : Nat} (C0 : FC D cy B p s m meth c own cc nL) (hw : Cond.constant own idx v ∈ AW) (hv : v = Int32.ofInt n) (hdg : decode cc pc = .ok (.ldc idx, 2)) (k : W p l e R s m args below meth c H locs cells slots Q (F0 m (pc + 2) ls (iv n :: rest))) : W p l e R s m args below meth c H locs cells slots Q (F0 m pc ls rest) := by
  subst hv
  exact lv_ldc C0.1 C0.2.1 C0.2.2.2.1 (C0.2.2.2.2.2.1.use _ hw) hdg k
theorem fl_ldc2 {n : Int} {v : Int64} {idx : Nat} (C0 : FC D cy B p s m meth c own cc nL) (hw : Cond.constantLong own idx v ∈ AW) (hv : v = Int64.ofInt n) (hdg : decode cc pc = .ok (.ldc2_w idx, 3)) (k : W p l e R s m args below meth c H locs cells slots Q (F0 m (pc + 3) ls (lgv n :: rest))) : W p l e R s m args below meth c H locs cells slots Q (F0 m pc ls rest) := by
  subst hv
  exact lv_ldc2 C0.1 C0.2.1 C0.2.2.2.1 (C0.2.2.2.2.2.1.use _ hw) hdg k
theorem fl_lconst {n : Fin 2} (C0 : FC D cy B p s m meth c own cc nL) (hdg : decode cc pc = .ok (.lconst n, 1)) (k : W p l e R s m args below meth c H locs cells slots Q (F0 m (pc + 1) ls (lgv ((n : Nat) : Int) :: rest))) : W p l e R s m args below meth c H locs cells slots Q (F0 m pc ls rest) := lv_lconst C0.1 C0.2.1 hdg (by simp [Int64.ofInt, Int64.ofNat]) k
theorem fl_goto {off : Int} {tgt : Nat} (C0 : FC D cy B p s m meth c own cc nL) (hdg : decode cc pc = .ok (.goto off, 3)) (ht : (pc : Int) + off = (tgt : Int)) (k : W p l e R s m args below meth c H locs cells slots Q (F0 m tgt ls rest)) : W p l e R s m args below meth c H locs cells slots Q (F0 m pc ls rest) := lv_goto C0.1 C0.2.1 hdg ht k
theorem fl_iadd {x y : Int} (C0 : FC D cy B p s m meth c own cc nL) (hdg : decode cc pc = .ok (.iadd, 1)) (k : W p l e R s m args below meth c H locs cells slots Q (F0 m (pc + 1) ls (iv (wr (x + y)) :: rest))) : W p l e R s m args below meth c H locs cells slots Q (F0 m pc ls (iv y :: iv x :: rest)) := lv_iadd C0.1 C0.2.1 hdg (by rw [of_add]; exact k)
theorem fl_isub {x y : Int} (C0 : FC D cy B p s m meth c own cc nL) (hdg : decode cc pc = .ok (.isub, 1)) (k : W p l e R s m args below meth c H locs cells slots Q (F0 m (pc + 1) ls (iv (wr (x - y)) :: rest))) : W p l e R s m args below meth c H locs cells slots Q (F0 m pc ls (iv y :: iv x :: rest)) := lv_isub C0.1 C0.2.1 hdg (by rw [of_sub]; exact k)
theorem fl_imul {x y : Int} (C0 : FC D cy B p s m meth c own cc nL) (hdg : decode cc pc = .ok (.imul, 1)) (k : W p l e R s m args below meth c H locs cells slots Q (F0 m (pc + 1) ls (iv (wr (x * y)) :: rest))) : W p l e R s m args below meth c H locs cells slots Q (F0 m pc ls (iv y :: iv x :: rest)) := lv_imul C0.1 C0.2.1 hdg (by rw [of_mul]; exact k)
theorem fl_ineg {x : Int} (C0 : FC D cy B p s m meth c own cc nL) (hdg : decode cc pc = .ok (.ineg, 1)) (k : W p l e R s m args below meth c H locs cells slots Q (F0 m (pc + 1) ls (iv (wr (-x)) :: rest))) : W p l e R s m args below meth c H locs cells slots Q (F0 m pc ls (iv x :: rest)) := lv_ineg C0.1 C0.2.1 hdg (by rw [of_neg]; exact k)
theorem fl_iand {x y : Int} (C0 : FC D cy B p s m meth c own cc nL) (hdg : decode cc pc = .ok (.iand, 1)) (k : W p l e R s m args below meth c H locs cells slots Q (F0 m (pc + 1) ls (iv (ban x y) :: rest))) : W p l e R s m args below meth c H locs cells slots Q (F0 m pc ls (iv y :: iv x :: rest)) := lv_iand C0.1 C0.2.1 hdg (by unfold ban at k; rw [iv_toInt] at k; exact k)
theorem fl_ior {x y : Int} (C0 : FC D cy B p s m meth c own cc nL) (hdg : decode cc pc = .ok (.ior, 1)) (k : W p l e R s m args below meth c H locs cells slots Q (F0 m (pc + 1) ls (iv (bor x y) :: rest))) : W p l e R s m args below meth c H locs cells slots Q (F0 m pc ls (iv y :: iv x :: rest)) := lv_ior C0.1 C0.2.1 hdg (by unfold bor at k; rw [iv_toInt] at k; exact k)
theorem fl_ixor {x y : Int} (C0 : FC D cy B p s m meth c own cc nL) (hdg : decode cc pc = .ok (.ixor, 1)) (k : W p l e R s m args below meth c H locs cells slots Q (F0 m (pc + 1) ls (iv (bxo x y) :: rest))) : W p l e R s m args below meth c H locs cells slots Q (F0 m pc ls (iv y :: iv x :: rest)) := lv_ixor C0.1 C0.2.1 hdg (by unfold bxo at k; rw [iv_toInt] at k; exact k)
theorem fl_ishl {x y : Int} (C0 : FC D cy B p s m meth c own cc nL) (hdg : decode cc pc = .ok (.ishl, 1)) (k : W p l e R s m args below meth c H locs cells slots Q (F0 m (pc + 1) ls (iv (bsl x y) :: rest))) : W p l e R s m args below meth c H locs cells slots Q (F0 m pc ls (iv y :: iv x :: rest)) := lv_ishl C0.1 C0.2.1 hdg (by unfold bsl at k; rw [iv_toInt] at k; exact k)
theorem fl_ishr {x y : Int} (C0 : FC D cy B p s m meth c own cc nL) (hdg : decode cc pc = .ok (.ishr, 1)) (k : W p l e R s m args below meth c H locs cells slots Q (F0 m (pc + 1) ls (iv (bsr x y) :: rest))) : W p l e R s m args below meth c H locs cells slots Q (F0 m pc ls (iv y :: iv x :: rest)) := lv_ishr C0.1 C0.2.1 hdg (by unfold bsr at k; rw [iv_toInt] at k; exact k)
theorem fl_idiv {x y : Int} (C0 : FC D cy B p s m meth c own cc nL) (ry : rg y) (hy : y ≠ 0) (hdg : decode cc pc = .ok (.idiv, 1)) (k : W p l e R s m args below meth c H locs cells slots Q (F0 m (pc + 1) ls (iv (idv x y) :: rest))) : W p l e R s m args below meth c H locs cells slots Q (F0 m pc ls (iv y :: iv x :: rest)) := lv_idiv C0.1 C0.2.1 hdg (fun h => hy ((of_eq ry ⟨by decide, by decide⟩).mp (h.trans rfl))) (by unfold idv at k; rw [iv_toInt] at k; exact k)
theorem fl_ladd {x y : Int} (C0 : FC D cy B p s m meth c own cc nL) (hdg : decode cc pc = .ok (.ladd, 1)) (k : W p l e R s m args below meth c H locs cells slots Q (F0 m (pc + 1) ls (lgv (wl (x + y)) :: rest))) : W p l e R s m args below meth c H locs cells slots Q (F0 m pc ls (lgv y :: lgv x :: rest)) := lv_ladd C0.1 C0.2.1 hdg (by rw [lof_add]; exact k)
theorem fl_lsub {x y : Int} (C0 : FC D cy B p s m meth c own cc nL) (hdg : decode cc pc = .ok (.lsub, 1)) (k : W p l e R s m args below meth c H locs cells slots Q (F0 m (pc + 1) ls (lgv (wl (x - y)) :: rest))) : W p l e R s m args below meth c H locs cells slots Q (F0 m pc ls (lgv y :: lgv x :: rest)) := lv_lsub C0.1 C0.2.1 hdg (by rw [lof_sub]; exact k)
theorem fl_lmul {x y : Int} (C0 : FC D cy B p s m meth c own cc nL) (hdg : decode cc pc = .ok (.lmul, 1)) (k : W p l e R s m args below meth c H locs cells slots Q (F0 m (pc + 1) ls (lgv (wl (x * y)) :: rest))) : W p l e R s m args below meth c H locs cells slots Q (F0 m pc ls (lgv y :: lgv x :: rest)) := lv_lmul C0.1 C0.2.1 hdg (by rw [lof_mul]; exact k)
theorem fl_i2l {x : Int} (C0 : FC D cy B p s m meth c own cc nL) (rx : rg x) (hdg : decode cc pc = .ok (.i2l, 1)) (k : W p l e R s m args below meth c H locs cells slots Q (F0 m (pc + 1) ls (lgv x :: rest))) : W p l e R s m args below meth c H locs cells slots Q (F0 m pc ls (iv x :: rest)) := lv_i2l C0.1 C0.2.1 hdg (of_i2l rx) k
theorem fl_l2i {x : Int} (C0 : FC D cy B p s m meth c own cc nL) (hdg : decode cc pc = .ok (.l2i, 1)) (k : W p l e R s m args below meth c H locs cells slots Q (F0 m (pc + 1) ls (iv (wr x) :: rest))) : W p l e R s m args below meth c H locs cells slots Q (F0 m pc ls (lgv x :: rest)) := lv_l2i C0.1 C0.2.1 hdg (lof_l2i x) k
theorem fl_lcmp {x y : Int} (C0 : FC D cy B p s m meth c own cc nL) (rx : rl x) (ry : rl y) (hdg : decode cc pc = .ok (.lcmp, 1)) (k : W p l e R s m args below meth c H locs cells slots Q (F0 m (pc + 1) ls (iv (cmpl x y) :: rest))) : W p l e R s m args below meth c H locs cells slots Q (F0 m pc ls (lgv y :: lgv x :: rest)) := by
  refine W.lcmp C0.1 C0.2.1 hdg ?_
  have h : lg_cmp (Int64.ofInt x) (Int64.ofInt y) = Int32.ofInt (cmpl x y) := by
    unfold lg_cmp cmpl
    simp only [gt_iff_lt, lof_lt ry rx, lof_lt rx ry, lof_eq rx ry]
    by_cases h1 : y < x
    · rw [if_pos h1, if_neg (by omega), if_neg (by omega)]; rfl
    · rw [if_neg h1]
      by_cases h2 : x < y
      · rw [if_pos h2]
        try rw [if_pos h2]
        try rw [if_neg (by omega)]
        try rfl
      · rw [if_neg h2]
        try rw [if_pos (by omega)]
        try rw [if_neg (by omega)]
        try rw [if_pos (by omega)]
        try rfl
  rw [h]
  exact k
theorem fl_icmp_lt {x y off : Int} {tgt : Nat} (C0 : FC D cy B p s m meth c own cc nL) (rx : rg x) (ry : rg y) (hdg : decode cc pc = .ok (.if_icmp .lt off, 3)) (ht : (pc : Int) + off = (tgt : Int)) (kt : x < y → W p l e R s m args below meth c H locs cells slots Q (F0 m tgt ls rest)) (kf : ¬ x < y → W p l e R s m args below meth c H locs cells slots Q (F0 m (pc + 3) ls rest)) : W p l e R s m args below meth c H locs cells slots Q (F0 m pc ls (iv y :: iv x :: rest)) := lv_icmp_lt C0.1 C0.2.1 hdg ht (fun h => kt ((of_lt rx ry).mp h)) (fun h => kf (fun q => h ((of_lt rx ry).mpr q)))
theorem fl_if_lt {x off : Int} {tgt : Nat} (C0 : FC D cy B p s m meth c own cc nL) (rx : rg x) (hdg : decode cc pc = .ok (.ifCond .lt off, 3)) (ht : (pc : Int) + off = (tgt : Int)) (kt : x < 0 → W p l e R s m args below meth c H locs cells slots Q (F0 m tgt ls rest)) (kf : ¬ x < 0 → W p l e R s m args below meth c H locs cells slots Q (F0 m (pc + 3) ls rest)) : W p l e R s m args below meth c H locs cells slots Q (F0 m pc ls (iv x :: rest)) := by
  have r0 : rg 0 := ⟨by decide, by decide⟩
  exact lv_if_lt C0.1 C0.2.1 hdg ht (fun h => kt ((of_lt rx r0).mp h)) (fun h => kf (fun q => h ((of_lt rx r0).mpr q)))
theorem fl_icmp_ge {x y off : Int} {tgt : Nat} (C0 : FC D cy B p s m meth c own cc nL) (rx : rg x) (ry : rg y) (hdg : decode cc pc = .ok (.if_icmp .ge off, 3)) (ht : (pc : Int) + off = (tgt : Int)) (kt : y ≤ x → W p l e R s m args below meth c H locs cells slots Q (F0 m tgt ls rest)) (kf : ¬ y ≤ x → W p l e R s m args below meth c H locs cells slots Q (F0 m (pc + 3) ls rest)) : W p l e R s m args below meth c H locs cells slots Q (F0 m pc ls (iv y :: iv x :: rest)) := lv_icmp_ge C0.1 C0.2.1 hdg ht (fun h => kt ((of_le ry rx).mp h)) (fun h => kf (fun q => h ((of_le ry rx).mpr q)))
theorem fl_if_ge {x off : Int} {tgt : Nat} (C0 : FC D cy B p s m meth c own cc nL) (rx : rg x) (hdg : decode cc pc = .ok (.ifCond .ge off, 3)) (ht : (pc : Int) + off = (tgt : Int)) (kt : 0 ≤ x → W p l e R s m args below meth c H locs cells slots Q (F0 m tgt ls rest)) (kf : ¬ 0 ≤ x → W p l e R s m args below meth c H locs cells slots Q (F0 m (pc + 3) ls rest)) : W p l e R s m args below meth c H locs cells slots Q (F0 m pc ls (iv x :: rest)) := by
  have r0 : rg 0 := ⟨by decide, by decide⟩
  exact lv_if_ge C0.1 C0.2.1 hdg ht (fun h => kt ((of_le r0 rx).mp h)) (fun h => kf (fun q => h ((of_le r0 rx).mpr q)))
theorem fl_icmp_gt {x y off : Int} {tgt : Nat} (C0 : FC D cy B p s m meth c own cc nL) (rx : rg x) (ry : rg y) (hdg : decode cc pc = .ok (.if_icmp .gt off, 3)) (ht : (pc : Int) + off = (tgt : Int)) (kt : y < x → W p l e R s m args below meth c H locs cells slots Q (F0 m tgt ls rest)) (kf : ¬ y < x → W p l e R s m args below meth c H locs cells slots Q (F0 m (pc + 3) ls rest)) : W p l e R s m args below meth c H locs cells slots Q (F0 m pc ls (iv y :: iv x :: rest)) := lv_icmp_gt C0.1 C0.2.1 hdg ht (fun h => kt ((of_lt ry rx).mp h)) (fun h => kf (fun q => h ((of_lt ry rx).mpr q)))
theorem fl_if_gt {x off : Int} {tgt : Nat} (C0 : FC D cy B p s m meth c own cc nL) (rx : rg x) (hdg : decode cc pc = .ok (.ifCond .gt off, 3)) (ht : (pc : Int) + off = (tgt : Int)) (kt : 0 < x → W p l e R s m args below meth c H locs cells slots Q (F0 m tgt ls rest)) (kf : ¬ 0 < x → W p l e R s m args below meth c H locs cells slots Q (F0 m (pc + 3) ls rest)) : W p l e R s m args below meth c H locs cells slots Q (F0 m pc ls (iv x :: rest)) := by
  have r0 : rg 0 := ⟨by decide, by decide⟩
  exact lv_if_gt C0.1 C0.2.1 hdg ht (fun h => kt ((of_lt r0 rx).mp h)) (fun h => kf (fun q => h ((of_lt r0 rx).mpr q)))
theorem fl_icmp_le {x y off : Int} {tgt : Nat} (C0 : FC D cy B p s m meth c own cc nL) (rx : rg x) (ry : rg y) (hdg : decode cc pc = .ok (.if_icmp .le off, 3)) (ht : (pc : Int) + off = (tgt : Int)) (kt : x ≤ y → W p l e R s m args below meth c H locs cells slots Q (F0 m tgt ls rest)) (kf : ¬ x ≤ y → W p l e R s m args below meth c H locs cells slots Q (F0 m (pc + 3) ls rest)) : W p l e R s m args below meth c H locs cells slots Q (F0 m pc ls (iv y :: iv x :: rest)) := lv_icmp_le C0.1 C0.2.1 hdg ht (fun h => kt ((of_le rx ry).mp h)) (fun h => kf (fun q => h ((of_le rx ry).mpr q)))
theorem fl_if_le {x off : Int} {tgt : Nat} (C0 : FC D cy B p s m meth c own cc nL) (rx : rg x) (hdg : decode cc pc = .ok (.ifCond .le off, 3)) (ht : (pc : Int) + off = (tgt : Int)) (kt : x ≤ 0 → W p l e R s m args below meth c H locs cells slots Q (F0 m tgt ls rest)) (kf : ¬ x ≤ 0 → W p l e R s m args below meth c H locs cells slots Q (F0 m (pc + 3) ls rest)) : W p l e R s m args below meth c H locs cells slots Q (F0 m pc ls (iv x :: rest)) := by
  have r0 : rg 0 := ⟨by decide, by decide⟩
  exact lv_if_le C0.1 C0.2.1 hdg ht (fun h => kt ((of_le rx r0).mp h)) (fun h => kf (fun q => h ((of_le rx r0).mpr q)))
theorem fl_icmp_eq {x y off : Int} {tgt : Nat} (C0 : FC D cy B p s m meth c own cc nL) (rx : rg x) (ry : rg y) (hdg : decode cc pc = .ok (.if_icmp .eq off, 3)) (ht : (pc : Int) + off = (tgt : Int)) (kt : x = y → W p l e R s m args below meth c H locs cells slots Q (F0 m tgt ls rest)) (kf : ¬ x = y → W p l e R s m args below meth c H locs cells slots Q (F0 m (pc + 3) ls rest)) : W p l e R s m args below meth c H locs cells slots Q (F0 m pc ls (iv y :: iv x :: rest)) := lv_icmp_eq C0.1 C0.2.1 hdg ht (fun h => kt ((of_eq rx ry).mp h)) (fun h => kf (fun q => h ((of_eq rx ry).mpr q)))
theorem fl_if_eq {x off : Int} {tgt : Nat} (C0 : FC D cy B p s m meth c own cc nL) (rx : rg x) (hdg : decode cc pc = .ok (.ifCond .eq off, 3)) (ht : (pc : Int) + off = (tgt : Int)) (kt : x = 0 → W p l e R s m args below meth c H locs cells slots Q (F0 m tgt ls rest)) (kf : ¬ x = 0 → W p l e R s m args below meth c H locs cells slots Q (F0 m (pc + 3) ls rest)) : W p l e R s m args below meth c H locs cells slots Q (F0 m pc ls (iv x :: rest)) := by
  have r0 : rg 0 := ⟨by decide, by decide⟩
  exact lv_if_eq C0.1 C0.2.1 hdg ht (fun h => kt ((of_eq rx r0).mp h)) (fun h => kf (fun q => h ((of_eq rx r0).mpr q)))
theorem fl_icmp_ne {x y off : Int} {tgt : Nat} (C0 : FC D cy B p s m meth c own cc nL) (rx : rg x) (ry : rg y) (hdg : decode cc pc = .ok (.if_icmp .ne off, 3)) (ht : (pc : Int) + off = (tgt : Int)) (kt : ¬ x = y → W p l e R s m args below meth c H locs cells slots Q (F0 m tgt ls rest)) (kf : x = y → W p l e R s m args below meth c H locs cells slots Q (F0 m (pc + 3) ls rest)) : W p l e R s m args below meth c H locs cells slots Q (F0 m pc ls (iv y :: iv x :: rest)) := lv_icmp_ne C0.1 C0.2.1 hdg ht (fun h => kt (fun q => h ((of_eq rx ry).mpr q))) (fun h => kf (by first | exact (of_eq rx ry).mp h | exact (of_eq rx ry).mp (Classical.not_not.mp h)))
theorem fl_if_ne {x off : Int} {tgt : Nat} (C0 : FC D cy B p s m meth c own cc nL) (rx : rg x) (hdg : decode cc pc = .ok (.ifCond .ne off, 3)) (ht : (pc : Int) + off = (tgt : Int)) (kt : ¬ x = 0 → W p l e R s m args below meth c H locs cells slots Q (F0 m tgt ls rest)) (kf : x = 0 → W p l e R s m args below meth c H locs cells slots Q (F0 m (pc + 3) ls rest)) : W p l e R s m args below meth c H locs cells slots Q (F0 m pc ls (iv x :: rest)) := by
  have r0 : rg 0 := ⟨by decide, by decide⟩
  exact lv_if_ne C0.1 C0.2.1 hdg ht (fun h => kt (fun q => h ((of_eq rx r0).mpr q))) (fun h => kf (by first | exact (of_eq rx r0).mp h | exact (of_eq rx r0).mp (Classical.not_not.mp h)))
theorem fl_tableOut {dflt lo hi : Int} {offs : Array Int} {len : Nat} {x : Int} {tgt : Nat} (C0 : FC D cy B p s m meth c own cc nL) (rx : rg x) (hdg : decode cc pc = .ok (.tableswitch dflt lo hi offs, len)) (h : x < lo ∨ hi < x) (ht : (pc : Int) + dflt = (tgt : Int)) (k : W p l e R s m args below meth c H locs cells slots Q (F0 m tgt ls rest)) : W p l e R s m args below meth c H locs cells slots Q (F0 m pc ls (iv x :: rest)) := lv_tableOut C0.1 C0.2.1 hdg (by rw [fl_tI rx]; exact h) ht k
theorem fl_tableIn {dflt lo hi : Int} {offs : Array Int} {len : Nat} {x v off : Int} {tgt : Nat} (C0 : FC D cy B p s m meth c own cc nL) (rx : rg x) (hdg : decode cc pc = .ok (.tableswitch dflt lo hi offs, len)) (hv : x = v) (h : lo ≤ v ∧ v ≤ hi) (ho : offs[(v - lo).toNat]? = some off) (ht : (pc : Int) + off = (tgt : Int)) (k : W p l e R s m args below meth c H locs cells slots Q (F0 m tgt ls rest)) : W p l e R s m args below meth c H locs cells slots Q (F0 m pc ls (iv x :: rest)) := by
  subst hv
  exact lv_tableIn C0.1 C0.2.1 hdg (by rw [fl_tI rx]; omega) (by rw [fl_tI rx]; omega) (by rw [fl_tI rx]; exact ho) ht k
theorem fl_iinc {i k : Nat} {n x : Int} {lv lv' : List (Nat × Value)} (C0 : FC D cy B p s m meth c own cc nL) (hdg : decode cc pc = .ok (.iinc i n, 3)) (h : lv_has ls nL lv) (hk : lv[k]? = some (i, iv x)) (hn : i < nL) (hl : (i, iv (wr (x + n))) :: lv.filter (fun q => !(q.1 == i) && !(q.1 + 1 == i && q.2.category == 2)) = lv')
    (kk : ∀ ls' : Array Slot, lv_has ls' nL lv' → W p l e R s m args below meth c H locs cells slots Q (F0 m (pc + 3) ls' rest)) : W p l e R s m args below meth c H locs cells slots Q (F0 m pc ls rest) := lv_iinc (v := Int32.ofInt (wr (x + n))) C0.1 C0.2.1 hdg h hk (of_add x n) hn hl kk
/-- the ends -/
abbrev QI (D : va_G) (cy : Nat → ClassId) (B : Nat) (L : List Nat) (K : KT) (P : PT) (J : IT) (res : Int × IT) : Array Value → State → Outcome → State → Prop := va_Qi (fun (r : Int32) (_ : Unit) => r = Int32.ofInt res.1 ∧ rg res.1) (fun _ t => FW D cy B L K P J res.2 t) (fun q => B ≤ q)
abbrev QV (D : va_G) (cy : Nat → ClassId) (B : Nat) (L : List Nat) (K : KT) (P : PT) (J : IT) (res : IT) : Array Value → State → Outcome → State → Prop := va_Qv (fun (_ : Unit) => True) (fun _ t => FW D cy B L K P J res t) (fun q => B ≤ q)
abbrev QR (D : va_G) (cy : Nat → ClassId) (B : Nat) (L : List Nat) (K : KT) (P : PT) (J : IT) (res : Nat × IT) : Array Value → State → Outcome → State → Prop := va_Qr (fun (_ : Unit) => True) (fun _ a t => a = res.1 ∧ FW D cy B L K P J res.2 t) (fun q => B ≤ q)
theorem FS.world (hF : FS D cy B L K P J s.heap I H locs) (hFK : FK D cy s) (hFZ : FZ cy B s s.heap) {t : State} (ht : t.heap = H) (hW : s.WarmedH t.vm) : FW D cy B L K P J I t := by
  subst ht
  exact ⟨⟨hF.1, hF.2.1, va_S.rf, hF.2.2.2.1, hF.2.2.2.2.1, Nat.le_trans hF.2.2.2.2.2.1 hF.2.2.1.1, hF.2.2.2.2.2.2⟩, hFK.moved hW, (hFZ.kept hF.2.2.1.2.1).moved hW.alike⟩
theorem fl_iret {r : Int} {res : Int × IT} (C0 : FC D cy B p s m meth c own cc nL) (hF : FS D cy B L K P J s.heap I H locs) (hr : meth.sig.returnType = some .int) (rr : rg r) (he : (r, I) = res) (hdg : decode cc pc = .ok (.ireturn, 1)) : W p l e R s m args below meth c H locs cells slots (MQ below (QI D cy B L K P J res) args s cells slots (fun q => B ≤ q)) (F0 m pc ls [iv r]) := by
  subst he
  obtain ⟨hx, hb, -, -, hlocks, hFK, hFZ⟩ := C0
  exact W.iret hx hb hr (fun t ht hW => ⟨⟨_, (), rfl, ⟨rfl, rr⟩, hF.world hFK hFZ ht hW⟩, hF.2.2.1.F ht⟩) (fun q hq => hF.2.2.1.2.2 q hq) hdg (hlocks := hlocks)
theorem fl_zret {r : Int} {res : Int × IT} (C0 : FC D cy B p s m meth c own cc nL) (hF : FS D cy B L K P J s.heap I H locs) (hr : meth.sig.returnType = some .boolean) (rr : rg r) (h01 : r = 0 ∨ r = 1) (he : (r, I) = res) (hdg : decode cc pc = .ok (.ireturn, 1)) : W p l e R s m args below meth c H locs cells slots (MQ below (QI D cy B L K P J res) args s cells slots (fun q => B ≤ q)) (F0 m pc ls [iv r]) := by
  subst he
  obtain ⟨hx, hb, -, -, hlocks, hFK, hFZ⟩ := C0
  exact W.zret hx hb hr (by rcases h01 with rfl | rfl <;> rfl) (fun t ht hW => ⟨⟨_, (), rfl, ⟨rfl, rr⟩, hF.world hFK hFZ ht hW⟩, hF.2.2.1.F ht⟩) (fun q hq => hF.2.2.1.2.2 q hq) hdg (hlocks := hlocks)
theorem fl_vret {res : IT} (C0 : FC D cy B p s m meth c own cc nL) (hF : FS D cy B L K P J s.heap I H locs) (hr : meth.sig.returnType = none) (he : I = res) (hdg : decode cc pc = .ok (.return_, 1)) : W p l e R s m args below meth c H locs cells slots (MQ below (QV D cy B L K P J res) args s cells slots (fun q => B ≤ q)) (F0 m pc ls []) := by
  subst he
  obtain ⟨hx, hb, -, -, hlocks, hFK, hFZ⟩ := C0
  exact W.vret hx hb hr (fun t ht hW => ⟨⟨(), rfl, trivial, hF.world hFK hFZ ht hW⟩, hF.2.2.1.F ht⟩) (fun q hq => hF.2.2.1.2.2 q hq) hdg (hlocks := hlocks)
theorem fl_aret {a : Nat} {res : Nat × IT} {C : String} (C0 : FC D cy B p s m meth c own cc nL) (hF : FS D cy B L K P J s.heap I H locs) (hr : meth.sig.returnType = some (.object C)) (he : (a, I) = res) (hdg : decode cc pc = .ok (.areturn, 1)) : W p l e R s m args below meth c H locs cells slots (MQ below (QR D cy B L K P J res) args s cells slots (fun q => B ≤ q)) (F0 m pc ls [.ref a]) := by
  subst he
  obtain ⟨hx, hb, -, -, hlocks, hFK, hFZ⟩ := C0
  exact W.aret hx hb hr (Or.inl ⟨_, rfl⟩) (Or.inr ⟨_, rfl⟩) (fun t ht hW => ⟨⟨(), _, rfl, trivial, rfl, hF.world hFK hFZ ht hW⟩, hF.2.2.1.F ht⟩) (fun q hq => hF.2.2.1.2.2 q hq) hdg (hlocks := hlocks)
/-- the start of a walk -/
theorem FW.start {U : State} (h : FW D cy B L K P J I U) : FS D cy B L K P J U.heap I U.heap [] := h.1
theorem FW.blind {av : List Value} : FrameBlind (va_Pc av (FW D cy B L K P J I)) := fun a U g mk h => ⟨h.1, h.2.1, FK.same (s := U) (U := U.calling g mk a) rfl h.2.2.1, FZ.moved (u := U) (U := U.calling g mk a) (Vm.Alike.refl U.vm) h.2.2.2⟩
theorem FC.ofB {y : MethodName} {S : Spec} {ret : Option FieldType} {s₁ : State} (B0 : BodyLoose p l y S cc nL ret e s m args below meth c s₁) (hml : c.maxLocals = nL) (hFK : FK D cy s) (hFZ : FZ cy B s s.heap) : FC D cy B p s m meth c y.cls cc nL := ⟨B0.exec, B0.bytes, hml, findClass_of_methodNamed B0.named, B0.notSynchronized, hFK, hFZ⟩
end FI
section FCalls
variable {p : Program} {l : Launch} {e : Env} {R : Room} {s : State} {m : MethodId} {args : Array Value} {below : List Frame} {meth : Method} {c : Code} {H : Heap} {locs : List Loc} {cells slots : Nat} {Q : State → Prop}
variable {D : va_G} {cy : Nat → ClassId} {B : Nat} {L : List Nat} {K : KT} {P : PT} {J I : IT} {own : String} {cc : ByteArray} {nL pc : Nat} {ls : Array Slot} {As rest st0 : List Value}
variable {y : MethodName} {bytes : ByteArray} {maxL idx mc ms : Nat} {ret : Option FieldType} {rm : Room} {Qc : Array Value → State → Outcome → State → Prop} {b ci co n : Nat} {C host : String} {T : u_T} {ty : Nat → FieldType}
theorem FS.pre (hF : FS D cy B L K P J s.heap I H locs) (hFK : FK D cy s) (hFZ : FZ cy B s s.heap) (av : List Value) : ∀ U : State, U.heap = H → s.WarmedH U.vm → va_Pc av (FW D cy B L K P J I) av.toArray U := fun _ hU hW => ⟨rfl, hF.world hFK hFZ hU hW⟩
theorem FS.recv (hC : Cls ci C T ty) (hFK : FK D cy s) (hF : FS D cy B L K P J s.heap I H locs) (hkb : K b ≠ 0) (hlt : K b < 100) (hci : kci (K b) = ci) : ∃ cell : Cell, H[b]? = some cell ∧ cell.vm.isStatics = false ∧ s.vm.findClass C = some cell.cls := by
  obtain ⟨k0, hk0⟩ := hF.get hkb
  rw [fcell_obj hlt hci] at hk0
  exact va_recv hFK.1 hF.1 hC.1 hk0
theorem gi_1 {w : Cond} (h : w ∈ AW) (g : goodWord w = true) : GoodIn AW [w] := fun x hx => by
  rw [List.mem_singleton.mp hx]
  exact ⟨h, good_of_word g⟩
theorem gi_c {w : Cond} {ws : List Cond} (h : w ∈ AW) (g : goodWord w = true) (t : GoodIn AW ws) : GoodIn AW (w :: ws) := fun x hx => by
  rcases List.mem_cons.mp hx with rfl | hx
  · exact ⟨h, good_of_word g⟩
  · exact t x hx
abbrev rooms (R rm : Room) (maxL : Nat) : Prop := rm.frames + 1 ≤ R.frames ∧ 8 + (maxL + 11) + rm.locals ≤ R.locals
abbrev plainM (y : MethodName) (n : Nat) : Prop := y.cls ≠ "java/lang/invoke/MethodHandle" ∧ y.cls ≠ "java/lang/invoke/VarHandle" ∧ (parseMethodDescriptor y.desc).map (fun d => d.parameters.length) = some n
theorem fl_runV (C0 : FC D cy B p s m meth c own cc nL) (hF : FS D cy B L K P J s.heap I H locs) (hsz : ls.size = nL) (hC : Cls ci C T ty) (h : K b = co) (ho : cok co ci = true)
    (hM : Met l y [.code y bytes maxL ret] rm (va_Pc (.ref b :: As) (FW D cy B L K P J I)) Qc mc ms (fun q => B ≤ q)) (w1 : Cond.methodLink own idx y ∈ AW) (w2 : Cond.instanceMethod y ∈ AW) (w3 : Cond.selects C y y ∈ AW) (w4 : Cond.initialized C ∈ AW) (w5 : Cond.code y bytes maxL ret ∈ AW)
    (hyC : y.cls = C) (hn : As.length = n) (hd : plainM y n) (hrc : rm.cells = mc) (hrs : rm.slots = ms) (hR : rooms R rm maxL) (hst : st0 = As.reverse ++ .ref b :: rest) (hW : (rest.map fun v => v.category).sum ≤ 8) (hdg : decode cc pc = .ok (.invokevirtual idx, 3)) (hf : cells + mc ≤ R.cells ∧ slots + ms ≤ R.slots) :
    va_Run p l e R s m args below meth c H locs cells slots mc ms (F0 m pc ls st0) rest (Qc (Value.ref b :: As).toArray) (fun q => B ≤ q) := by
  obtain ⟨h1, h2, h3⟩ := cok_of ho
  subst h
  obtain ⟨hx, hb, hml, hown, -, hFK, hFZ⟩ := C0
  exact va_runV (Ts := AW) ⟨hx, hb, hml, hown, hFK.use⟩ hM (cwV n hFK.use (gi_c w1 rfl (gi_c w2 rfl (gi_c w3 rfl (gi_c w4 rfl (gi_1 w5 rfl))))) rfl hrc hrs ⟨hyC, hd⟩ hR) ⟨FW.blind, hF.recv hC hFK h1 h2 h3, hF.pre hFK hFZ _⟩ rfl hn hsz hst (lv_room hW) hdg hf
theorem fl_runN (C0 : FC D cy B p s m meth c own cc nL) (hF : FS D cy B L K P J s.heap I H locs) (hsz : ls.size = nL) (hC : Cls ci C T ty) (h : K b = co) (ho : cok co ci = true)
    (hM : Met l y [.code y bytes maxL ret] rm (va_Pc (.ref b :: As) (FW D cy B L K P J I)) Qc mc ms (fun q => B ≤ q)) (w1 : Cond.methodLinkNest own idx y host ∈ AW) (w2 : Cond.instanceMethod y ∈ AW) (w3 : Cond.selects C y y ∈ AW) (w4 : Cond.initialized y.cls ∈ AW) (w5 : Cond.code y bytes maxL ret ∈ AW)
    (hn : As.length = n) (hd : plainM y n) (hrc : rm.cells = mc) (hrs : rm.slots = ms) (hR : rooms R rm maxL) (hst : st0 = As.reverse ++ .ref b :: rest) (hW : (rest.map fun v => v.category).sum ≤ 8) (hdg : decode cc pc = .ok (.invokevirtual idx, 3)) (hf : cells + mc ≤ R.cells ∧ slots + ms ≤ R.slots) :
    va_Run p l e R s m args below meth c H locs cells slots mc ms (F0 m pc ls st0) rest (Qc (Value.ref b :: As).toArray) (fun q => B ≤ q) := by
  obtain ⟨h1, h2, h3⟩ := cok_of ho
  subst h
  obtain ⟨hx, hb, hml, hown, -, hFK, hFZ⟩ := C0
  exact va_runVN (Ts := AW) ⟨hx, hb, hml, hown, hFK.use⟩ hM ⟨va_cnB n hFK.use (gi_1 w5 rfl) rfl hrc hrs (hFK.2.1 _ w1) (hFK.use _ w4) hd hR, hFK.use _ w2, hFK.use _ w3⟩ ⟨FW.blind, hF.recv hC hFK h1 h2 h3, hF.pre hFK hFZ _⟩ rfl hn hsz hst (lv_room hW) hdg hf
theorem fl_runS (C0 : FC D cy B p s m meth c own cc nL) (hF : FS D cy B L K P J s.heap I H locs) (hsz : ls.size = nL)
    (hM : Met l y [.code y bytes maxL ret] rm (va_Pc As (FW D cy B L K P J I)) Qc mc ms (fun q => B ≤ q)) (w1 : Cond.methodLink own idx y ∈ AW) (w2 : Cond.static y ∈ AW) (w4 : Cond.initialized own ∈ AW) (w5 : Cond.code y bytes maxL ret ∈ AW)
    (hyC : y.cls = own) (hn : As.length = n) (hd : plainM y n) (hrc : rm.cells = mc) (hrs : rm.slots = ms) (hR : rooms R rm maxL) (hst : st0 = As.reverse ++ rest) (hW : (rest.map fun v => v.category).sum ≤ 8) (hdg : decode cc pc = .ok (.invokestatic idx, 3)) (hf : cells + mc ≤ R.cells ∧ slots + ms ≤ R.slots) :
    va_Run p l e R s m args below meth c H locs cells slots mc ms (F0 m pc ls st0) rest (Qc As.toArray) (fun q => B ≤ q) := by
  obtain ⟨hx, hb, hml, hown, -, hFK, hFZ⟩ := C0
  exact va_runS (Ts := AW) ⟨hx, hb, hml, hown, hFK.use⟩ hM (cwS n hFK.use (gi_c w1 rfl (gi_c w2 rfl (gi_c w4 rfl (gi_1 w5 rfl)))) rfl hrc hrs ⟨hyC, hd⟩ hR) ⟨FW.blind, hF.pre hFK hFZ _⟩ rfl hn hsz hst (lv_room hW) hdg hf
theorem FS.after {I' : IT} {t : State} {H1 : Heap} {locs1 : List Loc} (hF : FS D cy B L K P J s.heap I H locs) (ht : t.heap = H1) (hS : va_S (fun q => B ≤ q) s.heap H1 locs1) (hw : FW D cy B L K P J I' t) : FS D cy B L K P J s.heap I' H1 locs1 := by
  subst ht
  exact ⟨hw.1.1, hw.1.2.1, hS, hF.2.2.2.1, hF.2.2.2.2.1, hF.2.2.2.2.2.1, hw.1.2.2.2.2.2.2⟩
theorem fl_ri {r : Int} {I' : IT} {a : Array Value} (hF : FS D cy B L K P J s.heap I H locs) (hr : va_Run p l e R s m args below meth c H locs cells slots mc ms (F0 m pc ls st0) rest (QI D cy B L K P J (r, I') a) (fun q => B ≤ q))
    (kk : ∀ (H1 : Heap) (locs1 : List Loc), FS D cy B L K P J s.heap I' H1 locs1 → rg r → W p l e R s m args below meth c H1 locs1 (cells + mc) (slots + ms) Q (F0 m (pc + 3) ls (iv r :: rest))) : W p l e R s m args below meth c H locs cells slots Q (F0 m pc ls st0) :=
  va_calli hr hF.2.2.1 (fun _ _ h => h) (fun _ h => h) (fun r0 u t H1 locs1 ht _ hp hw _ _ hS => by obtain ⟨rfl, hp⟩ := hp; exact kk H1 locs1 (hF.after ht hS hw) hp)
theorem fl_rv {res : IT} {a : Array Value} (hF : FS D cy B L K P J s.heap I H locs) (hr : va_Run p l e R s m args below meth c H locs cells slots mc ms (F0 m pc ls st0) rest (QV D cy B L K P J res a) (fun q => B ≤ q))
    (kk : ∀ (H1 : Heap) (locs1 : List Loc), FS D cy B L K P J s.heap res H1 locs1 → W p l e R s m args below meth c H1 locs1 (cells + mc) (slots + ms) Q (F0 m (pc + 3) ls rest)) : W p l e R s m args below meth c H locs cells slots Q (F0 m pc ls st0) :=
  va_callv hr hF.2.2.1 (fun _ _ h => h) (fun _ h => h) (fun u t H1 locs1 ht _ hp hw _ _ hS => kk H1 locs1 (hF.after ht hS hw))
theorem fl_rr {r : Nat} {I' : IT} {a : Array Value} (hF : FS D cy B L K P J s.heap I H locs) (hr : va_Run p l e R s m args below meth c H locs cells slots mc ms (F0 m pc ls st0) rest (QR D cy B L K P J (r, I') a) (fun q => B ≤ q))
    (kk : ∀ (H1 : Heap) (locs1 : List Loc), FS D cy B L K P J s.heap I' H1 locs1 → W p l e R s m args below meth c H1 locs1 (cells + mc) (slots + ms) Q (F0 m (pc + 3) ls (.ref r :: rest))) : W p l e R s m args below meth c H locs cells slots Q (F0 m pc ls st0) :=
  va_callr hr hF.2.2.1 (fun _ _ h => h) (fun _ h => h) (fun u ra t H1 locs1 ht _ hp hw _ _ hS => by obtain ⟨rfl, hw⟩ := hw; exact kk H1 locs1 (hF.after ht hS hw))
end FCalls
