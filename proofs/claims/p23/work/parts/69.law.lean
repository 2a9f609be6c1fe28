/-! THE LAW, from its entry to its end -/
section LL5
variable {p : Program} {l : Launch} {e : Env} {s : State} {m : MethodId} {args : Array Value} {below : List Frame} {meth : Method} {c : Code} {H : Heap} {locs : List Loc} {cells slots : Nat} {Q : State → Prop}
variable {D : va_G} {cy : Nat → ClassId} {b N x k : Nat} {xs : Nat → Int32} {ls : Array Slot} {rest : List Value} {S T : Hl} {w y z : Int}
set_option maxRecDepth 100000 in
set_option maxHeartbeats 4000000 in
theorem law_draw (hst : l.stackTraces = false) (C : LC p s m meth c D cy s.heap.size cL_law 14) (hk : k < 80) (hY : okY y z) (hL : LV S k) (hI : HI D cy s.heap.size s.heap H locs x S) (hl : lv_has ls 14 ((7, iv w) :: lvB b x S k y z)) (hc : cells + 60 ≤ 600130) (hs : slots + 4600 ≤ 7301080)
    (kb : ∀ (H : Heap) (locs : List Loc) (ls : Array Slot) (T : Hl) (cells2 slots2 : Nat), HI D cy s.heap.size s.heap H locs x T → LV T (k + 1) → lv_has ls 14 (lvB b x T k y z) → cells2 ≤ cells + 60 → slots2 ≤ slots + 4600 → W p l e room_1 s m args below meth c H locs cells2 slots2 Q (F0 m 634 ls [])) (hw : 0 ≤ w ∧ w < 16) : W p l e room_1 s m args below meth c H locs cells slots Q (F0 m 79 ls []) := by
  have hok := hI.ok
  have hn6 := hok.2.2.1
  have hn60 := hok.2.2.2.2.1
  have hmin := hok.2.2.2.2.2.2.1
  have rp : rg (S.np : Int) := ⟨by omega, by omega⟩
  have rq : rg (S.ne : Int) := ⟨by omega, by omega⟩
  have rmn : rg S.min := ⟨by omega, by omega⟩
  have rw0 : rg w := ⟨by omega, by omega⟩
  refine lv_iload C.1.1 C.1.2.1 dL_law_79 (lv_at hl 0 rfl) ?_
  refine fl_iconst C.1 dL_law_81 ?_
  refine fl_icmp_lt (tgt := 89) C.1 rw0 (rgk 3 rfl) dL_law_82 (by decide) (fun _ => lb_problem hst C hk hY hL hI hl hc hs kb hw) (fun w3 => ?_)
  refine lv_iload_n C.1.1 C.1.2.1 dL_law_85 rfl (lv_at hl 6 rfl) ?_
  refine fl_if_ne (tgt := 256) C.1 rp dL_law_86 (by decide) (fun hne => ?_) (fun _ => lb_problem hst C hk hY hL hI hl hc hs kb hw)
  have hnp : S.np ≠ 0 := by omega
  refine lv_iload C.1.1 C.1.2.1 dL_law_256 (lv_at hl 0 rfl) ?_
  refine fl_bipush C.1 dL_law_258 (by decide) ?_
  refine fl_icmp_ge (tgt := 307) C.1 rw0 (rgk 6 rfl) dL_law_260 (by decide) (fun _ => ?_) (fun _ => lb_test hst C hk hY hL hI hl hc hs kb hnp)
  refine lv_iload C.1.1 C.1.2.1 dL_law_307 (lv_at hl 0 rfl) ?_
  refine fl_bipush C.1 dL_law_309 (by decide) ?_
  refine fl_icmp_ge (tgt := 364) C.1 rw0 (rgk 10 rfl) dL_law_311 (by decide) (fun _ => ?_) (fun _ => lb_enter hst C hk hY hL hI hl hc hs kb hnp)
  refine lv_iload C.1.1 C.1.2.1 dL_law_364 (lv_at hl 0 rfl) ?_
  refine fl_bipush C.1 dL_law_366 (by decide) ?_
  refine fl_icmp_ge (tgt := 476) C.1 rw0 (rgk 13 rfl) dL_law_368 (by decide) (fun _ => ?_) (fun _ => lb_judge hst C hk hY hL hI hl hc hs kb)
  refine lv_iload C.1.1 C.1.2.1 dL_law_476 (lv_at hl 0 rfl) ?_
  refine fl_bipush C.1 dL_law_478 (by decide) ?_
  refine fl_icmp_ne (tgt := 525) C.1 rw0 (rgk 13 rfl) dL_law_480 (by decide) (fun _ => ?_) (fun _ => lb_mend hst C hk hY hL hI hl hc hs kb hnp)
  refine lv_iload C.1.1 C.1.2.1 dL_law_525 (lv_at hl 0 rfl) ?_
  refine fl_bipush C.1 dL_law_527 (by decide) ?_
  exact fl_icmp_ne (tgt := 596) C.1 rw0 (rgk 14 rfl) dL_law_529 (by decide) (fun _ => lb_pass hst C hk hY hL hI hl hc hs kb) (fun _ => lb_hack hst C hk hY hL hI hl hc hs kb)
set_option maxRecDepth 100000 in
set_option maxHeartbeats 4000000 in
theorem law_loop (hst : l.stackTraces = false) (X : LX p s m meth c D cy b N xs) (hN : N ≤ 260)
    (kend : ∀ (H : Heap) (locs : List Loc) (ls : Array Slot) (cells slots : Nat), va_S (fun q : Nat => s.heap.size ≤ q) s.heap H locs → cells ≤ 600130 → slots ≤ 7301080 → W p l e room_1 s m args below meth c H locs cells slots Q (F0 m 799 ls [])) :
    ∀ (d k : Nat) (H : Heap) (locs : List Loc) (ls : Array Slot) (S : Hl) (cells slots : Nat), k + d = 80 → HI D cy s.heap.size s.heap H locs x S → LV S k → lv_has ls 14 (lvA b x S k) → cells ≤ 9000 + 104 * k + 1124 * ((k + 19) / 20) → slots ≤ 1617200 + 4864 * k + 255612 * ((k + 19) / 20) → W p l e room_1 s m args below meth c H locs cells slots Q (F0 m 26 ls []) := by
  have C := X.1
  intro d
  induction d with
  | zero =>
    intro k H locs ls S cells slots hk hI hL hl hc hs
    have rk : rg (k : Int) := ⟨by omega, by omega⟩
    refine lv_iload C.1.1 C.1.2.1 dL_law_26 (lv_at hl 0 rfl) ?_
    refine fl_bipush C.1 dL_law_28 (by decide) ?_
    exact fl_icmp_ge (tgt := 799) C.1 rk (rgk 80 rfl) dL_law_30 (by decide) (fun _ => kend H locs ls cells slots hI.va.1 (by omega) (by omega)) (fun h => absurd (show (80 : Int) ≤ (k : Int) by omega) h)
  | succ d ih =>
    intro k H locs ls S cells slots hk hI hL hl hc hs
    have rk : rg (k : Int) := ⟨by omega, by omega⟩
    refine lv_iload C.1.1 C.1.2.1 dL_law_26 (lv_at hl 0 rfl) ?_
    refine fl_bipush C.1 dL_law_28 (by decide) ?_
    refine fl_icmp_ge (tgt := 799) C.1 rk (rgk 80 rfl) dL_law_30 (by decide) (fun h => absurd h (by omega)) (fun _ => ?_)
    refine law_x X hN (by omega) hI.va.1 hl (fun ls w y z hw hY hl => ?_)
    refine law_draw hst C (by omega) hY hL hI hl (by omega) (by omega) (fun H locs ls T cells2 slots2 hI hLT hl h1 h2 => ?_) hw
    refine law_tail hst C (by omega) hY hI hl (by omega) (by omega) (fun H locs ls cells3 slots3 hI hl h3 h4 => ?_)
    refine ih (k + 1) H locs ls T cells3 slots3 (by omega) hI hLT hl ?_ ?_
    · by_cases z : k % 20 = 0
      · rw [if_pos z] at h3
        omega
      · rw [if_neg z] at h3
        omega
    · by_cases z : k % 20 = 0
      · rw [if_pos z] at h4
        omega
      · rw [if_neg z] at h4
        omega
set_option maxRecDepth 100000 in
set_option maxHeartbeats 4000000 in
theorem law_start (hst : l.stackTraces = false) (X : LX p s m meth c D cy b N xs) (hN : N ≤ 260) (hB : 1 < s.heap.size) (hl : lv_has ls 14 [(0, .ref b)])
    (kend : ∀ (H : Heap) (locs : List Loc) (ls : Array Slot) (cells slots : Nat), va_S (fun q : Nat => s.heap.size ≤ q) s.heap H locs → cells ≤ 600130 → slots ≤ 7301080 → W p l e room_1 s m args below meth c H locs cells slots Q (F0 m 799 ls [])) : W p l e room_1 s m args below meth c s.heap [] 0 0 Q (F0 m 0 ls []) := by
  have C := X.1
  refine k_callB C ⟨hB, Nat.le_refl _⟩ va_S.rf hl.1 (d_contest hst) aw_808 aw_809 aw_44 aw_810 pm_L_contest rfl rfl ⟨(Nat.le_of_ble_eq_true rfl), (Nat.le_of_ble_eq_true rfl)⟩ (Nat.le_of_ble_eq_true rfl) dL_law_0 ⟨(Nat.le_of_ble_eq_true rfl), (Nat.le_of_ble_eq_true rfl)⟩ (fun H locs hS => ?_)
  refine fl_if_ne (tgt := 8) C.1 (rgk 1 rfl) dL_law_3 (by decide) (fun _ => ?_) (fun h => absurd h (by decide))
  refine k_new C (by exact ⟨(Nat.le_of_ble_eq_true rfl), (Nat.le_of_ble_eq_true rfl)⟩) ⟨hB, Nat.le_refl _⟩ hS hl.1 ⟨(Nat.le_of_ble_eq_true rfl), (Nat.le_of_ble_eq_true rfl)⟩ ⟨(Nat.le_of_ble_eq_true rfl), (Nat.le_of_ble_eq_true rfl)⟩ dL_law_8 dL_law_11 dL_law_12 (fun x H locs hI => ?_)
  refine lv_astore_n (lv' := [(1, .ref x), (0, .ref b)]) C.1.1 C.1.2.1 dL_law_15 rfl hl (by decide) rfl (fun ls hl => ?_)
  refine fl_iconst C.1 dL_law_16 ?_
  refine lv_istore_n (lv' := [(2, iv 0), (1, .ref x), (0, .ref b)]) C.1.1 C.1.2.1 dL_law_17 rfl hl (by decide) rfl (fun ls hl => ?_)
  refine fl_iconst C.1 dL_law_18 ?_
  refine lv_istore_n (lv' := [(3, iv 0), (2, iv 0), (1, .ref x), (0, .ref b)]) C.1.1 C.1.2.1 dL_law_19 rfl hl (by decide) rfl (fun ls hl => ?_)
  refine fl_iconst C.1 dL_law_20 ?_
  refine lv_istore (lv' := [(4, iv 0), (3, iv 0), (2, iv 0), (1, .ref x), (0, .ref b)]) C.1.1 C.1.2.1 dL_law_21 hl (by decide) rfl (fun ls hl => ?_)
  refine fl_iconst C.1 dL_law_23 ?_
  refine lv_istore (lv' := [(5, iv 0), (4, iv 0), (3, iv 0), (2, iv 0), (1, .ref x), (0, .ref b)]) C.1.1 C.1.2.1 dL_law_24 hl (by decide) rfl (fun ls hl => ?_)
  have hl2 : lv_has ls 14 (lvA b x s0 0) := lv_sub hl [0, 5, 4, 3, 2, 1] rfl
  exact law_loop hst X hN kend 80 0 H locs ls s0 _ _ (by omega) hI (fun i hi => absurd hi (Nat.not_lt_zero _)) hl2 (Nat.le_of_ble_eq_true rfl) (Nat.le_of_ble_eq_true rfl)
end LL5
/-- the heap holds two cells at least: the script, and ArrayList's empty row -/
theorem two_cells {cy : Nat → ClassId} {b N : Nat} {xs : Nat → Int32} {s : State} (hX : va_X b N xs s s.heap) (hZ : FZ cy s.heap.size s s.heap) : 1 < s.heap.size := by
  obtain ⟨scr, h1, h2, -⟩ := hX
  obtain ⟨cell, g1, g2, -⟩ := hZ.2.2
  have l1 : b < s.heap.size := (Array.getElem?_eq_some_iff.mp h1).1
  obtain ⟨t, ht⟩ : ∃ t : Nat, t = cy 7 := ⟨_, rfl⟩
  rw [← ht] at g1
  have l2 : t < s.heap.size := (Array.getElem?_eq_some_iff.mp g1).1
  by_cases c1 : 1 < s.heap.size
  · exact c1
  · exfalso
    have e1 : b = t := by omega
    rw [← e1, h1] at g1
    obtain ⟨-, k1, k2, co1, k3⟩ := h2
    obtain ⟨-, j1, j2, co2, j3⟩ := g2
    cases g1
    rw [k2] at j2
    cases j2
    rw [k3] at j3
    cases j3
