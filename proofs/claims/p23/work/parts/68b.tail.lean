/-! THE LAW'S LOOP: the boards at its end -/
section LL2
variable {p : Program} {l : Launch} {e : Env} {s : State} {m : MethodId} {args : Array Value} {below : List Frame} {meth : Method} {c : Code} {H : Heap} {locs : List Loc} {cells slots : Nat} {Q : State → Prop}
variable {D : va_G} {cy : Nat → ClassId} {b N x k : Nat} {xs : Nat → Int32} {ls : Array Slot} {rest : List Value} {S T : Hl} {w y z : Int}
def fAn (S : Hl) (k t : Nat) : Int := if k % 8 = 0 then brP S (aN S) t else (t : Int)
theorem fAn_255 {S : Hl} {k : Nat} : orp (fAn S k) 8 = 255 := by
  by_cases h : k % 8 = 0
  · rw [show fAn S k = fun t => brP S (aN S) t from funext fun t => if_pos h]
    exact brP_255
  · rw [show fAn S k = fun t : Nat => (t : Int) from funext fun t => if_neg h]
    exact idn_255
set_option maxRecDepth 100000 in
set_option maxHeartbeats 4000000 in
theorem pl_loop (hst : l.stackTraces = false) (C : LC p s m meth c D cy s.heap.size cL_law 14) (hk : k < 80)
    (kk : ∀ (H : Heap) (locs : List Loc) (ls : Array Slot) (cells2 slots2 : Nat), HI D cy s.heap.size s.heap H locs x S → lv_has ls 14 ((10, iv 255) :: (11, iv 255) :: (12, iv 255) :: lvB b x S k y z) → cells2 ≤ cells + 40 → slots2 ≤ slots + 240 → W p l e room_1 s m args below meth c H locs cells2 slots2 Q (F0 m 717 ls [])) (hc : cells + 40 ≤ 600130) (hs : slots + 240 ≤ 7301080) :
    ∀ (d t : Nat) (H : Heap) (locs : List Loc) (ls : Array Slot) (cells1 slots1 : Nat), t + d = 8 → cells1 ≤ cells + 5 * t → slots1 ≤ slots + 30 * t → HI D cy s.heap.size s.heap H locs x S → lv_has ls 14 ((13, iv (t : Int)) :: (10, iv (orp (fun t => brP S (vT S 0) t) t)) :: (11, iv (orp (fun t => brP S (vT S 1) t) t)) :: (12, iv (orp (fAn S k) t)) :: lvB b x S k y z) → W p l e room_1 s m args below meth c H locs cells1 slots1 Q (F0 m 646 ls []) := by
  intro d
  induction d with
  | zero =>
    intro t H locs ls cells1 slots1 ht hc1 hs1 hI hl
    have ht8 : t = 8 := by omega
    rw [ht8] at hl hc1 hs1
    rw [brP_255, brP_255, fAn_255] at hl
    refine lv_iload C.1.1 C.1.2.1 dL_law_646 (lv_at hl 0 rfl) ?_
    refine fl_bipush C.1 dL_law_648 (by decide) ?_
    refine fl_icmp_ge (tgt := 717) C.1 (rgk ((8 : Nat) : Int) rfl) (rgk 8 rfl) dL_law_650 (by decide) (fun _ => ?_) (fun h => absurd (by decide) h)
    exact kk H locs ls cells1 slots1 hI (lv_sub hl [1, 2, 3, 4, 5, 6, 7, 8, 9, 10, 11] rfl) (by omega) (by omega)
  | succ d ih =>
    intro t H locs ls cells1 slots1 ht hc1 hs1 hI hl
    have h8 : t < 8 := by omega
    have rt : rg (t : Int) := ⟨by omega, by omega⟩
    refine lv_iload C.1.1 C.1.2.1 dL_law_646 (lv_at hl 0 rfl) ?_
    refine fl_bipush C.1 dL_law_648 (by decide) ?_
    refine fl_icmp_ge (tgt := 717) C.1 rt (rgk 8 rfl) dL_law_650 (by decide) (fun h => absurd h (by omega)) (fun _ => ?_)
    refine lv_iload C.1.1 C.1.2.1 dL_law_653 (lv_at hl 1 rfl) ?_
    refine fl_iconst C.1 dL_law_655 ?_
    refine lv_aload_n C.1.1 C.1.2.1 dL_law_656 rfl (lv_at hl 8 rfl) ?_
    refine lv_iload C.1.1 C.1.2.1 dL_law_657 (lv_at hl 0 rfl) ?_
    refine fl_iconst C.1 dL_law_659 ?_
    refine fl_iconst C.1 dL_law_660 ?_
    refine j_board hst C (by exact ⟨(Nat.le_of_ble_eq_true rfl), (Nat.le_of_ble_eq_true rfl)⟩) hI hl.1 rt (rgk 0 rfl) (rgk 0 rfl) (board_pl h8) (Nat.le_of_ble_eq_true rfl) ⟨show cells1 + 2 ≤ 600130 by omega, show slots1 + 12 ≤ 7301080 by omega⟩ dL_law_661 (fun H locs hI _ => ?_)
    refine fl_ishl C.1 dL_law_664 ?_
    refine fl_ior C.1 dL_law_665 ?_
    refine lv_istore (lv' := (10, iv (orp (fun t => brP S (vT S 0) t) (t + 1))) :: (13, iv (t : Int)) :: (11, iv (orp (fun t => brP S (vT S 1) t) t)) :: (12, iv (orp (fAn S k) t)) :: lvB b x S k y z) C.1.1 C.1.2.1 dL_law_666 hl (by decide) rfl (fun ls hl => ?_)
    refine lv_iload C.1.1 C.1.2.1 dL_law_668 (lv_at hl 2 rfl) ?_
    refine fl_iconst C.1 dL_law_670 ?_
    refine lv_aload_n C.1.1 C.1.2.1 dL_law_671 rfl (lv_at hl 8 rfl) ?_
    refine lv_iload C.1.1 C.1.2.1 dL_law_672 (lv_at hl 1 rfl) ?_
    refine fl_iconst C.1 dL_law_674 ?_
    refine fl_iconst C.1 dL_law_675 ?_
    refine j_board hst C (by exact ⟨(Nat.le_of_ble_eq_true rfl), (Nat.le_of_ble_eq_true rfl)⟩) hI hl.1 rt (rgk 1 rfl) (rgk 0 rfl) (board_pl h8) (Nat.le_of_ble_eq_true rfl) ⟨show cells1 + 2 + 2 ≤ 600130 by omega, show slots1 + 12 + 12 ≤ 7301080 by omega⟩ dL_law_676 (fun H locs hI _ => ?_)
    refine fl_ishl C.1 dL_law_679 ?_
    refine fl_ior C.1 dL_law_680 ?_
    refine lv_istore (lv' := (11, iv (orp (fun t => brP S (vT S 1) t) (t + 1))) :: (10, iv (orp (fun t => brP S (vT S 0) t) (t + 1))) :: (13, iv (t : Int)) :: (12, iv (orp (fAn S k) t)) :: lvB b x S k y z) C.1.1 C.1.2.1 dL_law_681 hl (by decide) rfl (fun ls hl => ?_)
    have back : ∀ (H : Heap) (locs : List Loc) (cells2 slots2 : Nat) (v : Int), v = fAn S k t → cells2 ≤ cells1 + 5 → slots2 ≤ slots1 + 30 → HI D cy s.heap.size s.heap H locs x S → W p l e room_1 s m args below meth c H locs cells2 slots2 Q (F0 m 708 ls [iv (bsl 1 v), iv (orp (fAn S k) t)]) := fun H locs cells2 slots2 v hv h1 h2 hI => by
      subst hv
      refine fl_ior C.1 dL_law_708 ?_
      refine lv_istore (lv' := (12, iv (orp (fAn S k) (t + 1))) :: (11, iv (orp (fun t => brP S (vT S 1) t) (t + 1))) :: (10, iv (orp (fun t => brP S (vT S 0) t) (t + 1))) :: (13, iv (t : Int)) :: lvB b x S k y z) C.1.1 C.1.2.1 dL_law_709 hl (by decide) rfl (fun ls hl => ?_)
      refine fl_iinc (k := 3) (lv' := (13, iv (wr ((t : Int) + 1))) :: (12, iv (orp (fAn S k) (t + 1))) :: (11, iv (orp (fun t => brP S (vT S 1) t) (t + 1))) :: (10, iv (orp (fun t => brP S (vT S 0) t) (t + 1))) :: lvB b x S k y z) C.1 dL_law_711 hl rfl (by decide) rfl (fun ls hl => ?_)
      refine fl_goto (tgt := 646) C.1 dL_law_714 (by decide) ?_
      have e5 : wr ((t : Int) + 1) = ((t + 1 : Nat) : Int) := by rw [wr_id (by omega) (by omega)]; omega
      rw [e5] at hl
      exact ih (t + 1) H locs ls cells2 slots2 (by omega) (by omega) (by omega) hI (lv_sub hl [0, 3, 2, 1, 4, 5, 6, 7, 8, 9, 10, 11] rfl)
    refine lv_iload C.1.1 C.1.2.1 dL_law_683 (lv_at hl 3 rfl) ?_
    refine lv_iload C.1.1 C.1.2.1 dL_law_685 (lv_at hl 6 rfl) ?_
    refine fl_bipush C.1 dL_law_687 (by decide) ?_
    refine h_irem C.1 (by omega) (by decide) rfl dL_law_689 ?_
    refine fl_if_ne (tgt := 704) C.1 ⟨by omega, by omega⟩ dL_law_690 (by decide) (fun hz => ?_) (fun hz => ?_)
    · refine fl_iconst C.1 dL_law_704 ?_
      refine lv_iload C.1.1 C.1.2.1 dL_law_705 (lv_at hl 2 rfl) ?_
      refine fl_ishl C.1 dL_law_707 ?_
      exact back H locs _ _ (t : Int) (if_neg (by omega)).symm (by omega) (by omega) hI
    · refine fl_iconst C.1 dL_law_693 ?_
      refine lv_aload_n C.1.1 C.1.2.1 dL_law_694 rfl (lv_at hl 8 rfl) ?_
      refine lv_iload C.1.1 C.1.2.1 dL_law_695 (lv_at hl 2 rfl) ?_
      refine j_placeAnew hst C (by exact ⟨(Nat.le_of_ble_eq_true rfl), (Nat.le_of_ble_eq_true rfl)⟩) hI hl.1 rt (anew_pl h8) (Nat.le_of_ble_eq_true rfl) ⟨show cells1 + 2 + 2 + 1 ≤ 600130 by omega, show slots1 + 12 + 12 + 6 ≤ 7301080 by omega⟩ dL_law_697 (fun H locs hI _ => ?_)
      refine fl_ishl C.1 dL_law_700 ?_
      refine fl_goto (tgt := 708) C.1 dL_law_701 (by decide) ?_
      exact back H locs _ _ _ (if_pos (by omega)).symm (by omega) (by omega) hI
set_option maxRecDepth 100000 in
set_option maxHeartbeats 4000000 in
/-- from behind a drawn call to the loop's head -/
theorem law_tail (hst : l.stackTraces = false) (C : LC p s m meth c D cy s.heap.size cL_law 14) (hk : k < 80) (hY : okY y z) (hI : HI D cy s.heap.size s.heap H locs x S) (hl : lv_has ls 14 (lvB b x S k y z)) (hc : cells + 1200 ≤ 600130) (hs : slots + 256000 ≤ 7301080)
    (kk : ∀ (H : Heap) (locs : List Loc) (ls : Array Slot) (cells2 slots2 : Nat), HI D cy s.heap.size s.heap H locs x S → lv_has ls 14 (lvA b x S (k + 1)) → cells2 ≤ cells + 44 + (if k % 20 = 0 then 1124 else 0) → slots2 ≤ slots + 264 + (if k % 20 = 0 then 255612 else 0) → W p l e room_1 s m args below meth c H locs cells2 slots2 Q (F0 m 26 ls [])) : W p l e room_1 s m args below meth c H locs cells slots Q (F0 m 634 ls []) := by
  have hok := hI.ok
  have hn6 := hok.2.2.1
  have hn60 := hok.2.2.2.2.1
  have rp : rg (S.np : Int) := ⟨by omega, by omega⟩
  have rq : rg (S.ne : Int) := ⟨by omega, by omega⟩
  refine fl_iconst C.1 dL_law_634 ?_
  refine lv_istore (lv' := (10, iv 0) :: lvB b x S k y z) C.1.1 C.1.2.1 dL_law_635 hl (by decide) rfl (fun ls hl => ?_)
  refine fl_iconst C.1 dL_law_637 ?_
  refine lv_istore (lv' := (11, iv 0) :: (10, iv 0) :: lvB b x S k y z) C.1.1 C.1.2.1 dL_law_638 hl (by decide) rfl (fun ls hl => ?_)
  refine fl_iconst C.1 dL_law_640 ?_
  refine lv_istore (lv' := (12, iv 0) :: (11, iv 0) :: (10, iv 0) :: lvB b x S k y z) C.1.1 C.1.2.1 dL_law_641 hl (by decide) rfl (fun ls hl => ?_)
  refine fl_iconst C.1 dL_law_643 ?_
  refine lv_istore (lv' := (13, iv 0) :: (12, iv 0) :: (11, iv 0) :: (10, iv 0) :: lvB b x S k y z) C.1.1 C.1.2.1 dL_law_644 hl (by decide) rfl (fun ls hl => ?_)
  refine pl_loop (y := y) (z := z) (cells := cells) (slots := slots) hst C hk (fun H locs ls cells2 slots2 hI hl hc2 hs2 => ?_) (by omega) (by omega) 8 0 H locs ls cells slots (by omega) (by omega) (by omega) hI (lv_sub hl [0, 3, 2, 1, 4, 5, 6, 7, 8, 9, 10, 11] rfl)
  refine lv_iload C.1.1 C.1.2.1 dL_law_717 (lv_at hl 0 rfl) ?_
  refine fl_sipush C.1 dL_law_719 (by decide) ?_
  refine fl_icmp_ne (tgt := 772) C.1 (rgk 255 rfl) (rgk 255 rfl) dL_law_722 (by decide) (fun h => absurd rfl h) (fun _ => ?_)
  refine lv_iload C.1.1 C.1.2.1 dL_law_725 (lv_at hl 1 rfl) ?_
  refine fl_sipush C.1 dL_law_727 (by decide) ?_
  refine fl_icmp_ne (tgt := 772) C.1 (rgk 255 rfl) (rgk 255 rfl) dL_law_730 (by decide) (fun h => absurd rfl h) (fun _ => ?_)
  refine lv_iload C.1.1 C.1.2.1 dL_law_733 (lv_at hl 2 rfl) ?_
  refine fl_sipush C.1 dL_law_735 (by decide) ?_
  refine fl_icmp_ne (tgt := 772) C.1 (rgk 255 rfl) (rgk 255 rfl) dL_law_738 (by decide) (fun h => absurd rfl h) (fun _ => ?_)
  have hl : lv_has ls 14 (lvB b x S k y z) := lv_sub hl [3, 4, 5, 6, 7, 8, 9, 10] rfl
  have fin : ∀ (H : Heap) (locs : List Loc) (cells3 slots3 : Nat), HI D cy s.heap.size s.heap H locs x S → cells3 ≤ cells + 44 + (if k % 20 = 0 then 1124 else 0) → slots3 ≤ slots + 264 + (if k % 20 = 0 then 255612 else 0) → W p l e room_1 s m args below meth c H locs cells3 slots3 Q (F0 m 793 ls []) := fun H locs cells3 slots3 hI h1 h2 => by
    refine fl_iinc (k := 2) (lv' := (5, iv (wr ((k : Int) + 1))) :: (8, iv y) :: (9, iv z) :: [(0, .ref b), (1, .ref x), (2, iv (S.np : Int)), (3, iv (S.ne : Int)), (4, iv S.min)]) C.1 dL_law_793 hl rfl (by decide) rfl (fun ls hl => ?_)
    refine fl_goto (tgt := 26) C.1 dL_law_796 (by decide) ?_
    have e5 : wr ((k : Int) + 1) = ((k + 1 : Nat) : Int) := by rw [wr_id (by omega) (by omega)]; omega
    rw [e5] at hl
    exact kk H locs ls cells3 slots3 hI (lv_sub hl [0, 3, 4, 5, 6, 7] rfl) h1 h2
  have ref : ∀ (H : Heap) (locs : List Loc) (cells3 slots3 : Nat), HI D cy s.heap.size s.heap H locs x S → cells3 ≤ cells + 44 → slots3 ≤ slots + 264 → W p l e room_1 s m args below meth c H locs cells3 slots3 Q (F0 m 774 ls []) := fun H locs cells3 slots3 hI h1 h2 => by
    refine lv_iload C.1.1 C.1.2.1 dL_law_774 (lv_at hl 2 rfl) ?_
    refine fl_bipush C.1 dL_law_776 (by decide) ?_
    refine h_irem C.1 (by omega) (by decide) rfl dL_law_778 ?_
    refine fl_if_ne (tgt := 793) C.1 ⟨by omega, by omega⟩ dL_law_779 (by decide) (fun hz => ?_) (fun hz => ?_)
    · exact fin H locs cells3 slots3 hI (by omega) (by omega)
    · have hk20 : k % 20 = 0 := by omega
      rw [if_pos hk20] at fin
      rw [if_pos hk20] at fin
      refine lv_aload_n C.1.1 C.1.2.1 dL_law_782 rfl (lv_at hl 4 rfl) ?_
      refine lv_iload_n C.1.1 C.1.2.1 dL_law_783 rfl (lv_at hl 5 rfl) ?_
      refine lv_iload_n C.1.1 C.1.2.1 dL_law_784 rfl (lv_at hl 6 rfl) ?_
      refine k_refuses hst C ⟨(Nat.le_of_ble_eq_true rfl), (Nat.le_of_ble_eq_true rfl)⟩ hI hl.1 rp rq rfl rfl (Nat.le_of_ble_eq_true rfl) ⟨show cells3 + 1124 ≤ 600130 by omega, show slots3 + 255612 ≤ 7301080 by omega⟩ dL_law_785 (fun H locs hI _ => ?_)
      refine fl_if_ne (tgt := 793) C.1 (rgk 1 rfl) dL_law_788 (by decide) (fun _ => ?_) (fun h => absurd h (by decide))
      exact fin H locs _ _ hI (by omega) (by omega)
  refine lv_iload_n C.1.1 C.1.2.1 dL_law_741 rfl (lv_at hl 6 rfl) ?_
  refine fl_if_le (tgt := 774) C.1 rq dL_law_742 (by decide) (fun _ => ?_) (fun hz => ?_)
  · exact ref H locs cells2 slots2 hI (by omega) (by omega)
  · have hy0 := Int.emod_nonneg y (show (S.ne : Int) ≠ 0 by omega)
    have hy1 := Int.emod_lt_of_pos y (show 0 < (S.ne : Int) by omega)
    have hz0 := Int.emod_nonneg z (show (S.ne : Int) ≠ 0 by omega)
    have hz1 := Int.emod_lt_of_pos z (show 0 < (S.ne : Int) by omega)
    have ry : rg (y % (S.ne : Int)) := ⟨by omega, by omega⟩
    have rz : rg (z % (S.ne : Int)) := ⟨by omega, by omega⟩
    refine lv_aload_n C.1.1 C.1.2.1 dL_law_745 rfl (lv_at hl 4 rfl) ?_
    refine lv_iload C.1.1 C.1.2.1 dL_law_746 (lv_at hl 0 rfl) ?_
    refine lv_iload_n C.1.1 C.1.2.1 dL_law_748 rfl (lv_at hl 6 rfl) ?_
    refine h_irem C.1 (by omega) (by omega) rfl dL_law_749 ?_
    refine lv_iload C.1.1 C.1.2.1 dL_law_750 (lv_at hl 1 rfl) ?_
    refine lv_iload_n C.1.1 C.1.2.1 dL_law_752 rfl (lv_at hl 6 rfl) ?_
    refine h_irem C.1 (by omega) (by omega) rfl dL_law_753 ?_
    refine j_likeness hst C (by exact ⟨(Nat.le_of_ble_eq_true rfl), (Nat.le_of_ble_eq_true rfl)⟩) hI hl.1 ry rz (like_eq ⟨hy0, hy1⟩ ⟨hz0, hz1⟩) (Nat.le_of_ble_eq_true rfl) ⟨show cells2 + 2 ≤ 600130 by omega, show slots2 + 12 ≤ 7301080 by omega⟩ dL_law_754 (fun H locs hI rv => ?_)
    refine lv_aload_n C.1.1 C.1.2.1 dL_law_757 rfl (lv_at hl 4 rfl) ?_
    refine lv_iload C.1.1 C.1.2.1 dL_law_758 (lv_at hl 1 rfl) ?_
    refine lv_iload_n C.1.1 C.1.2.1 dL_law_760 rfl (lv_at hl 6 rfl) ?_
    refine h_irem C.1 (by omega) (by omega) rfl dL_law_761 ?_
    refine lv_iload C.1.1 C.1.2.1 dL_law_762 (lv_at hl 0 rfl) ?_
    refine lv_iload_n C.1.1 C.1.2.1 dL_law_764 rfl (lv_at hl 6 rfl) ?_
    refine h_irem C.1 (by omega) (by omega) rfl dL_law_765 ?_
    refine j_likeness hst C (by exact ⟨(Nat.le_of_ble_eq_true rfl), (Nat.le_of_ble_eq_true rfl)⟩) hI hl.1 rz ry (like_eq ⟨hz0, hz1⟩ ⟨hy0, hy1⟩) (Nat.le_of_ble_eq_true rfl) ⟨show cells2 + 2 + 2 ≤ 600130 by omega, show slots2 + 12 + 12 ≤ 7301080 by omega⟩ dL_law_766 (fun H locs hI rv2 => ?_)
    refine fl_icmp_eq (tgt := 774) C.1 rv rv2 dL_law_769 (by decide) (fun _ => ?_) (fun h => absurd likeV_sym h)
    exact ref H locs _ _ hI (by omega) (by omega)
end LL2
