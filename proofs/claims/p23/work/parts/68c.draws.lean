/-! THE LAW'S LOOP: the drawn calls -/
theorem lvB_kp {b x k : Nat} {S T : Hl} {y z : Int} (h : kp S T) : lvB b x T k y z = lvB b x S k y z := by
  show (8, iv y) :: (9, iv z) :: [(5, iv (k : Int)), (0, .ref b), (1, .ref x), (2, iv (T.np : Int)), (3, iv (T.ne : Int)), (4, iv T.min)] = _
  rw [h.1.1, h.1.2, h.2]
section LL3
variable {p : Program} {l : Launch} {e : Env} {s : State} {m : MethodId} {args : Array Value} {below : List Frame} {meth : Method} {c : Code} {H : Heap} {locs : List Loc} {cells slots : Nat} {Q : State → Prop}
variable {D : va_G} {cy : Nat → ClassId} {b N x k : Nat} {xs : Nat → Int32} {ls : Array Slot} {rest : List Value} {S T : Hl} {w y z : Int}
set_option maxRecDepth 100000 in
set_option maxHeartbeats 4000000 in
theorem lb_test (hst : l.stackTraces = false) (C : LC p s m meth c D cy s.heap.size cL_law 14) (hk : k < 80) (hY : okY y z) (hL : LV S k) (hI : HI D cy s.heap.size s.heap H locs x S) (hl : lv_has ls 14 ((7, iv w) :: lvB b x S k y z)) (hc : cells + 60 ≤ 600130) (hs : slots + 4600 ≤ 7301080)
    (kb : ∀ (H : Heap) (locs : List Loc) (ls : Array Slot) (T : Hl) (cells2 slots2 : Nat), HI D cy s.heap.size s.heap H locs x T → LV T (k + 1) → lv_has ls 14 (lvB b x T k y z) → cells2 ≤ cells + 60 → slots2 ≤ slots + 4600 → W p l e room_1 s m args below meth c H locs cells2 slots2 Q (F0 m 634 ls [])) (hnp : S.np ≠ 0) : W p l e room_1 s m args below meth c H locs cells slots Q (F0 m 263 ls []) := by
  have hok := hI.ok
  have hn6 := hok.2.2.1
  have hn60 := hok.2.2.2.2.1
  have hmin := hok.2.2.2.2.2.2.1
  have rp : rg (S.np : Int) := ⟨by omega, by omega⟩
  have rq : rg (S.ne : Int) := ⟨by omega, by omega⟩
  have rmn : rg S.min := ⟨by omega, by omega⟩
  have hz0 := Int.emod_nonneg z (show (S.np : Int) ≠ 0 by omega)
  have hz1 := Int.emod_lt_of_pos z (show 0 < (S.np : Int) by omega)
  have hy0 := Int.emod_nonneg y (show 4 ≠ 0 by omega)
  have hy1 := Int.emod_lt_of_pos y (show 0 < 4 by omega)
  obtain ⟨v, T, hS, hv, hkp, hLT⟩ := t_test (S := S) (n := k) (p := z % (S.np : Int)) (g := y % 4) hok ⟨hz0, hz1⟩ ⟨hy0, hy1⟩ (by omega)
  refine lv_iload C.1.1 C.1.2.1 dL_law_263 (lv_at hl 2 rfl) ?_
  refine lv_iload_n C.1.1 C.1.2.1 dL_law_265 rfl (lv_at hl 6 rfl) ?_
  refine h_irem C.1 (by omega) (by omega) rfl dL_law_266 ?_
  refine lv_istore (lv' := (10, iv (z % (S.np : Int))) :: (7, iv w) :: lvB b x S k y z) C.1.1 C.1.2.1 dL_law_267 hl (by decide) rfl (fun ls hl => ?_)
  refine lv_aload_n C.1.1 C.1.2.1 dL_law_269 rfl (lv_at hl 6 rfl) ?_
  refine fl_iconst C.1 dL_law_270 ?_
  refine lv_iload C.1.1 C.1.2.1 dL_law_271 (lv_at hl 0 rfl) ?_
  refine lv_iload C.1.1 C.1.2.1 dL_law_273 (lv_at hl 2 rfl) ?_
  refine fl_iconst C.1 dL_law_275 ?_
  refine h_irem C.1 (by omega) (by decide) rfl dL_law_276 ?_
  refine fl_iconst C.1 dL_law_277 ?_
  refine k_act hst C ⟨(Nat.le_of_ble_eq_true rfl), (Nat.le_of_ble_eq_true rfl)⟩ hI hl.1 (rgk 4 rfl) ⟨by omega, by omega⟩ ⟨by omega, by omega⟩ (rgk 0 rfl) hS (Nat.le_of_ble_eq_true rfl) ⟨show cells + 9 ≤ 600130 by omega, show slots + 2061 ≤ 7301080 by omega⟩ dL_law_278 (fun H locs hI rv => ?_)
  refine lv_istore (lv' := (11, iv v) :: (10, iv (z % (S.np : Int))) :: (7, iv w) :: lvB b x S k y z) C.1.1 C.1.2.1 dL_law_281 hl (by decide) rfl (fun ls hl => ?_)
  have fin : W p l e room_1 s m args below meth c H locs (cells + 9) (slots + 2061) Q (F0 m 304 ls []) := by
    refine fl_goto (tgt := 634) C.1 dL_law_304 (by decide) ?_
    exact kb H locs ls T _ _ hI (hLT hL) (by rw [lvB_kp hkp]; exact lv_sub hl [3, 4, 5, 6, 7, 8, 9, 10] rfl) (by omega) (by omega)
  refine lv_iload C.1.1 C.1.2.1 dL_law_283 (lv_at hl 0 rfl) ?_
  refine fl_ldc (n := -7000003) C.1 aw_803 rfl dL_law_285 ?_
  refine fl_icmp_eq (tgt := 304) C.1 rv (rgk (-7000003) rfl) dL_law_287 (by decide) (fun _ => fin) (fun hne => ?_)
  refine lv_iload C.1.1 C.1.2.1 dL_law_290 (lv_at hl 0 rfl) ?_
  refine fl_if_lt (tgt := 302) C.1 rv dL_law_292 (by decide) (fun h => absurd h (by omega)) (fun _ => ?_)
  refine lv_iload C.1.1 C.1.2.1 dL_law_295 (lv_at hl 0 rfl) ?_
  refine fl_bipush C.1 dL_law_297 (by decide) ?_
  exact fl_icmp_le (tgt := 304) C.1 rv (rgk 11 rfl) dL_law_299 (by decide) (fun _ => fin) (fun h => absurd (show v ≤ 11 by omega) h)
set_option maxRecDepth 100000 in
set_option maxHeartbeats 4000000 in
theorem lb_enter (hst : l.stackTraces = false) (C : LC p s m meth c D cy s.heap.size cL_law 14) (hk : k < 80) (hY : okY y z) (hL : LV S k) (hI : HI D cy s.heap.size s.heap H locs x S) (hl : lv_has ls 14 ((7, iv w) :: lvB b x S k y z)) (hc : cells + 60 ≤ 600130) (hs : slots + 4600 ≤ 7301080)
    (kb : ∀ (H : Heap) (locs : List Loc) (ls : Array Slot) (T : Hl) (cells2 slots2 : Nat), HI D cy s.heap.size s.heap H locs x T → LV T (k + 1) → lv_has ls 14 (lvB b x T k y z) → cells2 ≤ cells + 60 → slots2 ≤ slots + 4600 → W p l e room_1 s m args below meth c H locs cells2 slots2 Q (F0 m 634 ls [])) (hnp : S.np ≠ 0) : W p l e room_1 s m args below meth c H locs cells slots Q (F0 m 314 ls []) := by
  have hok := hI.ok
  have hn6 := hok.2.2.1
  have hn60 := hok.2.2.2.2.1
  have hmin := hok.2.2.2.2.2.2.1
  have rp : rg (S.np : Int) := ⟨by omega, by omega⟩
  have rq : rg (S.ne : Int) := ⟨by omega, by omega⟩
  have rmn : rg S.min := ⟨by omega, by omega⟩
  have hz0 := Int.emod_nonneg z (show (S.np : Int) ≠ 0 by omega)
  have hz1 := Int.emod_lt_of_pos z (show 0 < (S.np : Int) by omega)
  have hy0 := Int.emod_nonneg y (show 8 ≠ 0 by omega)
  have hy1 := Int.emod_lt_of_pos y (show 0 < 8 by omega)
  obtain ⟨T, hS, ⟨k1, k2, k3⟩, hLT⟩ := t_enter (S := S) (n := k) (t := y % 8) (p := z % (S.np : Int)) ⟨hy0, hy1⟩ ⟨hz0, hz1⟩
  refine lv_aload_n C.1.1 C.1.2.1 dL_law_314 rfl (lv_at hl 5 rfl) ?_
  refine fl_bipush C.1 dL_law_315 (by decide) ?_
  refine lv_iload C.1.1 C.1.2.1 dL_law_317 (lv_at hl 1 rfl) ?_
  refine fl_bipush C.1 dL_law_319 (by decide) ?_
  refine h_irem C.1 (by omega) (by decide) rfl dL_law_321 ?_
  refine lv_iload C.1.1 C.1.2.1 dL_law_322 (lv_at hl 2 rfl) ?_
  refine lv_iload_n C.1.1 C.1.2.1 dL_law_324 rfl (lv_at hl 6 rfl) ?_
  refine h_irem C.1 (by omega) (by omega) rfl dL_law_325 ?_
  refine fl_iconst C.1 dL_law_326 ?_
  refine k_act hst C ⟨(Nat.le_of_ble_eq_true rfl), (Nat.le_of_ble_eq_true rfl)⟩ hI hl.1 (rgk 8 rfl) ⟨by omega, by omega⟩ ⟨by omega, by omega⟩ (rgk 0 rfl) hS (Nat.le_of_ble_eq_true rfl) ⟨show cells + 9 ≤ 600130 by omega, show slots + 2061 ≤ 7301080 by omega⟩ dL_law_327 (fun H locs hI rv => ?_)
  refine lv_iload_n C.1.1 C.1.2.1 dL_law_330 rfl (lv_at hl 7 rfl) ?_
  refine fl_bipush C.1 dL_law_331 (by decide) ?_
  by_cases cc : S.ne < 60
  · rw [if_pos cc] at k2 rv ⊢
    refine fl_icmp_ge (tgt := 340) C.1 rq (rgk 60 rfl) dL_law_333 (by decide) (fun h => absurd h (by omega)) (fun _ => ?_)
    refine lv_iload_n C.1.1 C.1.2.1 dL_law_336 rfl (lv_at hl 7 rfl) ?_
    refine fl_goto (tgt := 342) C.1 dL_law_337 (by decide) ?_
    refine fl_icmp_eq (tgt := 347) C.1 rv rq dL_law_342 (by decide) (fun _ => ?_) (fun h => absurd rfl h)
    refine lv_iload_n C.1.1 C.1.2.1 dL_law_347 rfl (lv_at hl 7 rfl) ?_
    refine lv_iload_n C.1.1 C.1.2.1 dL_law_348 rfl (lv_at hl 7 rfl) ?_
    refine fl_bipush C.1 dL_law_349 (by decide) ?_
    refine fl_icmp_ge (tgt := 358) C.1 rq (rgk 60 rfl) dL_law_351 (by decide) (fun h => absurd h (by omega)) (fun _ => ?_)
    refine fl_iconst C.1 dL_law_354 ?_
    refine fl_goto (tgt := 359) C.1 dL_law_355 (by decide) ?_
    refine h_iadd (z := (T.ne : Int)) C.1 (by rw [wr_id (by omega) (by omega)]; omega) dL_law_359 ?_
    refine lv_istore_n (lv' := (3, iv (T.ne : Int)) :: (7, iv w) :: (8, iv y) :: (9, iv z) :: [(5, iv (k : Int)), (0, .ref b), (1, .ref x), (2, iv (S.np : Int)), (4, iv S.min)]) C.1.1 C.1.2.1 dL_law_360 rfl hl (by decide) rfl (fun ls hl => ?_)
    refine fl_goto (tgt := 634) C.1 dL_law_361 (by decide) ?_
    rw [← k1, ← k3] at hl
    exact kb H locs ls T _ _ hI (hLT hL) (lv_sub hl [2, 3, 4, 5, 6, 7, 0, 8] rfl) (by omega) (by omega)
  · rw [if_neg cc] at k2 rv ⊢
    refine fl_icmp_ge (tgt := 340) C.1 rq (rgk 60 rfl) dL_law_333 (by decide) (fun _ => ?_) (fun h => absurd (show (60 : Int) ≤ (S.ne : Int) by omega) h)
    refine fl_ldc (n := -7000003) C.1 aw_803 rfl dL_law_340 ?_
    refine fl_icmp_eq (tgt := 347) C.1 rv (rgk (-7000003) rfl) dL_law_342 (by decide) (fun _ => ?_) (fun h => absurd rfl h)
    refine lv_iload_n C.1.1 C.1.2.1 dL_law_347 rfl (lv_at hl 7 rfl) ?_
    refine lv_iload_n C.1.1 C.1.2.1 dL_law_348 rfl (lv_at hl 7 rfl) ?_
    refine fl_bipush C.1 dL_law_349 (by decide) ?_
    refine fl_icmp_ge (tgt := 358) C.1 rq (rgk 60 rfl) dL_law_351 (by decide) (fun _ => ?_) (fun h => absurd (show (60 : Int) ≤ (S.ne : Int) by omega) h)
    refine fl_iconst C.1 dL_law_358 ?_
    refine h_iadd (z := (T.ne : Int)) C.1 (by rw [wr_id (by omega) (by omega)]; omega) dL_law_359 ?_
    refine lv_istore_n (lv' := (3, iv (T.ne : Int)) :: (7, iv w) :: (8, iv y) :: (9, iv z) :: [(5, iv (k : Int)), (0, .ref b), (1, .ref x), (2, iv (S.np : Int)), (4, iv S.min)]) C.1.1 C.1.2.1 dL_law_360 rfl hl (by decide) rfl (fun ls hl => ?_)
    refine fl_goto (tgt := 634) C.1 dL_law_361 (by decide) ?_
    rw [← k1, ← k3] at hl
    exact kb H locs ls T _ _ hI (hLT hL) (lv_sub hl [2, 3, 4, 5, 6, 7, 0, 8] rfl) (by omega) (by omega)
set_option maxRecDepth 100000 in
set_option maxHeartbeats 4000000 in
theorem lb_judge (hst : l.stackTraces = false) (C : LC p s m meth c D cy s.heap.size cL_law 14) (hk : k < 80) (hY : okY y z) (hL : LV S k) (hI : HI D cy s.heap.size s.heap H locs x S) (hl : lv_has ls 14 ((7, iv w) :: lvB b x S k y z)) (hc : cells + 60 ≤ 600130) (hs : slots + 4600 ≤ 7301080)
    (kb : ∀ (H : Heap) (locs : List Loc) (ls : Array Slot) (T : Hl) (cells2 slots2 : Nat), HI D cy s.heap.size s.heap H locs x T → LV T (k + 1) → lv_has ls 14 (lvB b x T k y z) → cells2 ≤ cells + 60 → slots2 ≤ slots + 4600 → W p l e room_1 s m args below meth c H locs cells2 slots2 Q (F0 m 634 ls [])) : W p l e room_1 s m args below meth c H locs cells slots Q (F0 m 371 ls []) := by
  have hok := hI.ok
  have hn6 := hok.2.2.1
  have hn60 := hok.2.2.2.2.1
  have hmin := hok.2.2.2.2.2.2.1
  have rp : rg (S.np : Int) := ⟨by omega, by omega⟩
  have rq : rg (S.ne : Int) := ⟨by omega, by omega⟩
  have rmn : rg S.min := ⟨by omega, by omega⟩
  obtain ⟨v, T, hJ, ⟨hkp, hpb⟩, hcase⟩ := t_judge hok
  have hLT : LV T (k + 1) := hL.same hkp.1.1 hpb
  refine lv_aload_n C.1.1 C.1.2.1 dL_law_371 rfl (lv_at hl 5 rfl) ?_
  refine j_judge C (by exact ⟨(Nat.le_of_ble_eq_true rfl), (Nat.le_of_ble_eq_true rfl)⟩) hI hl.1 hJ (Nat.le_of_ble_eq_true rfl) ⟨show cells + 0 ≤ 600130 by omega, show slots + 0 ≤ 7301080 by omega⟩ dL_law_372 (fun H locs hI rv => ?_)
  refine lv_istore (lv' := (10, iv v) :: (7, iv w) :: lvB b x S k y z) C.1.1 C.1.2.1 dL_law_375 hl (by decide) rfl (fun ls hl => ?_)
  refine lv_iload C.1.1 C.1.2.1 dL_law_377 (lv_at hl 0 rfl) ?_
  have fin : ∀ (H : Heap) (locs : List Loc) (cells2 slots2 : Nat), HI D cy s.heap.size s.heap H locs x T → cells2 ≤ cells + 60 → slots2 ≤ slots + 4600 → W p l e room_1 s m args below meth c H locs cells2 slots2 Q (F0 m 473 ls []) := fun H locs cells2 slots2 hI h1 h2 => by
    refine fl_goto (tgt := 634) C.1 dL_law_473 (by decide) ?_
    exact kb H locs ls T _ _ hI hLT (by rw [lvB_kp hkp]; exact lv_sub hl [2, 3, 4, 5, 6, 7, 8, 9] rfl) h1 h2
  rcases hcase with ⟨rfl, hTS, hall⟩ | ⟨e', rfl, hlt, ⟨hv0, hv1⟩, hv2⟩
  · refine fl_if_lt (tgt := 450) C.1 (rgk (-1) rfl) dL_law_379 (by decide) (fun _ => ?_) (fun h => absurd (by decide) h)
    refine lv_iload C.1.1 C.1.2.1 dL_law_450 (lv_at hl 0 rfl) ?_
    refine fl_if_ge (tgt := 473) C.1 (rgk (-1) rfl) dL_law_452 (by decide) (fun h => absurd h (by decide)) (fun _ => ?_)
    refine lv_iload_n C.1.1 C.1.2.1 dL_law_455 rfl (lv_at hl 8 rfl) ?_
    refine fl_if_le (tgt := 473) C.1 rq dL_law_456 (by decide) (fun _ => fin H locs _ _ hI (by omega) (by omega)) (fun hne => ?_)
    have hy0 := Int.emod_nonneg y (show (S.ne : Int) ≠ 0 by omega)
    have hy1 := Int.emod_lt_of_pos y (show 0 < (S.ne : Int) by omega)
    refine lv_aload_n C.1.1 C.1.2.1 dL_law_459 rfl (lv_at hl 6 rfl) ?_
    refine lv_iload C.1.1 C.1.2.1 dL_law_460 (lv_at hl 2 rfl) ?_
    refine lv_iload_n C.1.1 C.1.2.1 dL_law_462 rfl (lv_at hl 8 rfl) ?_
    refine h_irem C.1 (by omega) (by omega) rfl dL_law_463 ?_
    refine fl_iconst C.1 dL_law_464 ?_
    refine j_entry hst C (by exact ⟨(Nat.le_of_ble_eq_true rfl), (Nat.le_of_ble_eq_true rfl)⟩) hI hl.1 ⟨by omega, by omega⟩ (rgk 0 rfl) (entry_is ⟨hy0, by rw [hkp.1.2]; exact hy1⟩ (by decide)) (Nat.le_of_ble_eq_true rfl) ⟨show cells + 0 + 2 ≤ 600130 by omega, show slots + 0 + 12 ≤ 7301080 by omega⟩ dL_law_465 (fun H locs hI rv => ?_)
    exact fl_if_ge (tgt := 473) C.1 rv dL_law_468 (by decide) (fun _ => fin H locs _ _ hI (by omega) (by omega)) (fun h => absurd (show 0 ≤ (T.en (y % (S.ne : Int)).toNat).vd by rw [hTS]; exact hall _ (by omega)) h)
  · have re : rg (e' : Int) := ⟨by omega, by omega⟩
    have hTe : T.ne = S.ne := hkp.1.2
    have he : ∀ u : Int, 0 ≤ u ∧ u ≤ 6 → entryS T (e' : Int) u = (0, entryV (T.en e') u, T) := fun u hu => by rw [entry_is (s := T) (e := (e' : Int)) ⟨by omega, by omega⟩ hu, Int.toNat_natCast]
    have c450 : ∀ (H : Heap) (locs : List Loc) (cells2 slots2 : Nat), HI D cy s.heap.size s.heap H locs x T → cells2 ≤ cells + 60 → slots2 ≤ slots + 4600 → W p l e room_1 s m args below meth c H locs cells2 slots2 Q (F0 m 450 ls []) := fun H locs cells2 slots2 hI h1 h2 => by
      refine lv_iload C.1.1 C.1.2.1 dL_law_450 (lv_at hl 0 rfl) ?_
      exact fl_if_ge (tgt := 473) C.1 re dL_law_452 (by decide) (fun _ => fin H locs _ _ hI h1 h2) (fun h => absurd (show (0 : Int) ≤ (e' : Int) by omega) h)
    have c425 : ∀ (H : Heap) (locs : List Loc) (cells2 slots2 : Nat), HI D cy s.heap.size s.heap H locs x T → cells2 ≤ cells + 20 → slots2 ≤ slots + 100 → W p l e room_1 s m args below meth c H locs cells2 slots2 Q (F0 m 425 ls []) := fun H locs cells2 slots2 hI h1 h2 => by
      refine lv_aload_n C.1.1 C.1.2.1 dL_law_425 rfl (lv_at hl 6 rfl) ?_
      refine lv_iload C.1.1 C.1.2.1 dL_law_426 (lv_at hl 0 rfl) ?_
      refine fl_iconst C.1 dL_law_428 ?_
      refine j_entry hst C (by exact ⟨(Nat.le_of_ble_eq_true rfl), (Nat.le_of_ble_eq_true rfl)⟩) hI hl.1 re (rgk 0 rfl) (he 0 (by decide)) (Nat.le_of_ble_eq_true rfl) ⟨show cells2 + 2 ≤ 600130 by omega, show slots2 + 12 ≤ 7301080 by omega⟩ dL_law_429 (fun H locs hI rv => ?_)
      refine fl_if_le (tgt := 450) C.1 rv dL_law_432 (by decide) (fun _ => c450 H locs _ _ hI (by omega) (by omega)) (fun hpos => ?_)
      refine lv_aload_n C.1.1 C.1.2.1 dL_law_435 rfl (lv_at hl 6 rfl) ?_
      refine lv_iload C.1.1 C.1.2.1 dL_law_436 (lv_at hl 0 rfl) ?_
      refine fl_iconst C.1 dL_law_438 ?_
      refine j_entry hst C (by exact ⟨(Nat.le_of_ble_eq_true rfl), (Nat.le_of_ble_eq_true rfl)⟩) hI hl.1 re (rgk 2 rfl) (he 2 (by decide)) (Nat.le_of_ble_eq_true rfl) ⟨show cells2 + 2 + 2 ≤ 600130 by omega, show slots2 + 12 + 12 ≤ 7301080 by omega⟩ dL_law_439 (fun H locs hI rv2 => ?_)
      refine fl_sipush C.1 dL_law_442 (by decide) ?_
      exact fl_icmp_le (tgt := 450) C.1 rv2 (rgk 300 rfl) dL_law_445 (by decide) (fun _ => c450 H locs _ _ hI (by omega) (by omega)) (fun h => absurd (hv2 (Int.not_le.mp hpos)) h)
    refine fl_if_lt (tgt := 450) C.1 re dL_law_379 (by decide) (fun h => absurd h (by omega)) (fun _ => ?_)
    refine lv_aload_n C.1.1 C.1.2.1 dL_law_382 rfl (lv_at hl 6 rfl) ?_
    refine lv_iload C.1.1 C.1.2.1 dL_law_383 (lv_at hl 0 rfl) ?_
    refine fl_iconst C.1 dL_law_385 ?_
    refine j_entry hst C (by exact ⟨(Nat.le_of_ble_eq_true rfl), (Nat.le_of_ble_eq_true rfl)⟩) hI hl.1 re (rgk 0 rfl) (he 0 (by decide)) (Nat.le_of_ble_eq_true rfl) ⟨show cells + 0 + 2 ≤ 600130 by omega, show slots + 0 + 12 ≤ 7301080 by omega⟩ dL_law_386 (fun H locs hI rv1 => ?_)
    refine fl_if_lt (tgt := 448) C.1 rv1 dL_law_389 (by decide) (fun h => absurd hv0 (Int.not_le.mpr h)) (fun _ => ?_)
    refine lv_aload_n C.1.1 C.1.2.1 dL_law_392 rfl (lv_at hl 6 rfl) ?_
    refine lv_iload C.1.1 C.1.2.1 dL_law_393 (lv_at hl 0 rfl) ?_
    refine fl_iconst C.1 dL_law_395 ?_
    refine j_entry hst C (by exact ⟨(Nat.le_of_ble_eq_true rfl), (Nat.le_of_ble_eq_true rfl)⟩) hI hl.1 re (rgk 0 rfl) (he 0 (by decide)) (Nat.le_of_ble_eq_true rfl) ⟨show cells + 0 + 2 + 2 ≤ 600130 by omega, show slots + 0 + 12 + 12 ≤ 7301080 by omega⟩ dL_law_396 (fun H locs hI rv2 => ?_)
    refine fl_if_ne (tgt := 406) C.1 rv2 dL_law_399 (by decide) (fun hz => ?_) (fun hz => ?_)
    · refine fl_iconst C.1 dL_law_406 ?_
      refine lv_aload_n C.1.1 C.1.2.1 dL_law_407 rfl (lv_at hl 6 rfl) ?_
      refine lv_iload C.1.1 C.1.2.1 dL_law_408 (lv_at hl 0 rfl) ?_
      refine fl_iconst C.1 dL_law_410 ?_
      refine j_entry hst C (by exact ⟨(Nat.le_of_ble_eq_true rfl), (Nat.le_of_ble_eq_true rfl)⟩) hI hl.1 re (rgk 1 rfl) (he 1 (by decide)) (Nat.le_of_ble_eq_true rfl) ⟨show cells + 0 + 2 + 2 + 2 ≤ 600130 by omega, show slots + 0 + 12 + 12 + 12 ≤ 7301080 by omega⟩ dL_law_411 (fun H locs hI rv3 => ?_)
      refine fl_if_ge (tgt := 421) C.1 rv3 dL_law_414 (by decide) (fun _ => ?_) (fun h => absurd (hv1.mpr (Int.not_le.mp h)) hz)
      refine fl_iconst C.1 dL_law_421 ?_
      refine fl_icmp_ne (tgt := 448) C.1 (rgk 0 rfl) (rgk 0 rfl) dL_law_422 (by decide) (fun h => absurd rfl h) (fun _ => ?_)
      exact c425 H locs _ _ hI (by omega) (by omega)
    · refine fl_iconst C.1 dL_law_402 ?_
      refine fl_goto (tgt := 407) C.1 dL_law_403 (by decide) ?_
      refine lv_aload_n C.1.1 C.1.2.1 dL_law_407 rfl (lv_at hl 6 rfl) ?_
      refine lv_iload C.1.1 C.1.2.1 dL_law_408 (lv_at hl 0 rfl) ?_
      refine fl_iconst C.1 dL_law_410 ?_
      refine j_entry hst C (by exact ⟨(Nat.le_of_ble_eq_true rfl), (Nat.le_of_ble_eq_true rfl)⟩) hI hl.1 re (rgk 1 rfl) (he 1 (by decide)) (Nat.le_of_ble_eq_true rfl) ⟨show cells + 0 + 2 + 2 + 2 ≤ 600130 by omega, show slots + 0 + 12 + 12 + 12 ≤ 7301080 by omega⟩ dL_law_411 (fun H locs hI rv3 => ?_)
      refine fl_if_ge (tgt := 421) C.1 rv3 dL_law_414 (by decide) (fun h => absurd (hv1.mp hz) (Int.not_lt.mpr h)) (fun _ => ?_)
      refine fl_iconst C.1 dL_law_417 ?_
      refine fl_goto (tgt := 422) C.1 dL_law_418 (by decide) ?_
      refine fl_icmp_ne (tgt := 448) C.1 (rgk 1 rfl) (rgk 1 rfl) dL_law_422 (by decide) (fun h => absurd rfl h) (fun _ => ?_)
      exact c425 H locs _ _ hI (by omega) (by omega)
set_option maxRecDepth 100000 in
set_option maxHeartbeats 4000000 in
theorem lb_mend (hst : l.stackTraces = false) (C : LC p s m meth c D cy s.heap.size cL_law 14) (hk : k < 80) (hY : okY y z) (hL : LV S k) (hI : HI D cy s.heap.size s.heap H locs x S) (hl : lv_has ls 14 ((7, iv w) :: lvB b x S k y z)) (hc : cells + 60 ≤ 600130) (hs : slots + 4600 ≤ 7301080)
    (kb : ∀ (H : Heap) (locs : List Loc) (ls : Array Slot) (T : Hl) (cells2 slots2 : Nat), HI D cy s.heap.size s.heap H locs x T → LV T (k + 1) → lv_has ls 14 (lvB b x T k y z) → cells2 ≤ cells + 60 → slots2 ≤ slots + 4600 → W p l e room_1 s m args below meth c H locs cells2 slots2 Q (F0 m 634 ls [])) (hnp : S.np ≠ 0) : W p l e room_1 s m args below meth c H locs cells slots Q (F0 m 483 ls []) := by
  have hok := hI.ok
  have hn6 := hok.2.2.1
  have hn60 := hok.2.2.2.2.1
  have hmin := hok.2.2.2.2.2.2.1
  have rp : rg (S.np : Int) := ⟨by omega, by omega⟩
  have rq : rg (S.ne : Int) := ⟨by omega, by omega⟩
  have rmn : rg S.min := ⟨by omega, by omega⟩
  have hz0 := Int.emod_nonneg z (show (S.np : Int) ≠ 0 by omega)
  have hz1 := Int.emod_lt_of_pos z (show 0 < (S.np : Int) by omega)
  have hy0 := Int.emod_nonneg y (show 2 ≠ 0 by omega)
  have hy1 := Int.emod_lt_of_pos y (show 0 < 2 by omega)
  obtain ⟨v, T, hS, hv, hkp, hLT⟩ := t_mend (S := S) (n := k) (p := z % (S.np : Int)) (c := y % 2) ⟨hz0, hz1⟩ ⟨hy0, by omega⟩ (by omega) hL
  have rzp : rg (z % (S.np : Int)) := ⟨by omega, by omega⟩
  obtain ⟨r, T2, hJ, ⟨hr, hkp2, hpb2⟩, hJ2⟩ := t_rejudge (S := T) (p := z % (S.np : Int)) ⟨hz0, by rw [hkp.1.1]; exact hz1⟩
  refine lv_aload_n C.1.1 C.1.2.1 dL_law_483 rfl (lv_at hl 5 rfl) ?_
  refine fl_bipush C.1 dL_law_484 (by decide) ?_
  refine lv_iload C.1.1 C.1.2.1 dL_law_486 (lv_at hl 2 rfl) ?_
  refine lv_iload_n C.1.1 C.1.2.1 dL_law_488 rfl (lv_at hl 6 rfl) ?_
  refine h_irem C.1 (by omega) (by omega) rfl dL_law_489 ?_
  refine lv_iload C.1.1 C.1.2.1 dL_law_490 (lv_at hl 1 rfl) ?_
  refine fl_iconst C.1 dL_law_492 ?_
  refine h_irem C.1 (by omega) (by decide) rfl dL_law_493 ?_
  refine fl_iconst C.1 dL_law_494 ?_
  refine k_act hst C ⟨(Nat.le_of_ble_eq_true rfl), (Nat.le_of_ble_eq_true rfl)⟩ hI hl.1 (rgk 6 rfl) rzp ⟨by omega, by omega⟩ (rgk 0 rfl) hS (Nat.le_of_ble_eq_true rfl) ⟨show cells + 9 ≤ 600130 by omega, show slots + 2061 ≤ 7301080 by omega⟩ dL_law_495 (fun H locs hI rv => ?_)
  refine fl_if_eq (tgt := 523) C.1 rv dL_law_498 (by decide) (fun h => absurd h hv) (fun _ => ?_)
  refine lv_aload_n C.1.1 C.1.2.1 dL_law_501 rfl (lv_at hl 5 rfl) ?_
  refine lv_iload C.1.1 C.1.2.1 dL_law_502 (lv_at hl 2 rfl) ?_
  refine lv_iload_n C.1.1 C.1.2.1 dL_law_504 rfl (lv_at hl 6 rfl) ?_
  refine h_irem C.1 (by omega) (by omega) rfl dL_law_505 ?_
  refine j_rejudge hst C (by exact ⟨(Nat.le_of_ble_eq_true rfl), (Nat.le_of_ble_eq_true rfl)⟩) hI hl.1 rzp hJ (Nat.le_of_ble_eq_true rfl) ⟨show cells + 9 + 1 ≤ 600130 by omega, show slots + 2061 + 6 ≤ 7301080 by omega⟩ dL_law_506 (fun H locs hI rr => ?_)
  refine fl_if_lt (tgt := 523) C.1 rr dL_law_509 (by decide) (fun h => absurd hr (Int.not_le.mpr h)) (fun _ => ?_)
  refine lv_aload_n C.1.1 C.1.2.1 dL_law_512 rfl (lv_at hl 5 rfl) ?_
  refine lv_iload C.1.1 C.1.2.1 dL_law_513 (lv_at hl 2 rfl) ?_
  refine lv_iload_n C.1.1 C.1.2.1 dL_law_515 rfl (lv_at hl 6 rfl) ?_
  refine h_irem C.1 (by omega) (by omega) rfl dL_law_516 ?_
  refine j_rejudge hst C (by exact ⟨(Nat.le_of_ble_eq_true rfl), (Nat.le_of_ble_eq_true rfl)⟩) hI hl.1 rzp hJ2 (Nat.le_of_ble_eq_true rfl) ⟨show cells + 9 + 1 + 1 ≤ 600130 by omega, show slots + 2061 + 6 + 6 ≤ 7301080 by omega⟩ dL_law_517 (fun H locs hI _ => ?_)
  refine fl_if_eq (tgt := 634) C.1 (rgk 0 rfl) dL_law_520 (by decide) (fun _ => ?_) (fun h => absurd rfl h)
  have hk2 : kp S T2 := ⟨⟨hkp2.1.1.trans hkp.1.1, hkp2.1.2.trans hkp.1.2⟩, hkp2.2.trans hkp.2⟩
  exact kb H locs ls T2 _ _ hI (fun i hi => by rw [hpb2]; exact hLT i (by rw [← hkp2.1.1]; exact hi)) (by rw [lvB_kp hk2]; exact lv_sub hl [1, 2, 3, 4, 5, 6, 7, 8] rfl) (by omega) (by omega)
set_option maxRecDepth 100000 in
set_option maxHeartbeats 4000000 in
theorem lb_hack (hst : l.stackTraces = false) (C : LC p s m meth c D cy s.heap.size cL_law 14) (hk : k < 80) (hY : okY y z) (hL : LV S k) (hI : HI D cy s.heap.size s.heap H locs x S) (hl : lv_has ls 14 ((7, iv w) :: lvB b x S k y z)) (hc : cells + 60 ≤ 600130) (hs : slots + 4600 ≤ 7301080)
    (kb : ∀ (H : Heap) (locs : List Loc) (ls : Array Slot) (T : Hl) (cells2 slots2 : Nat), HI D cy s.heap.size s.heap H locs x T → LV T (k + 1) → lv_has ls 14 (lvB b x T k y z) → cells2 ≤ cells + 60 → slots2 ≤ slots + 4600 → W p l e room_1 s m args below meth c H locs cells2 slots2 Q (F0 m 634 ls [])) : W p l e room_1 s m args below meth c H locs cells slots Q (F0 m 532 ls []) := by
  have hok := hI.ok
  have hn6 := hok.2.2.1
  have hn60 := hok.2.2.2.2.1
  have hmin := hok.2.2.2.2.2.2.1
  have rp : rg (S.np : Int) := ⟨by omega, by omega⟩
  have rq : rg (S.ne : Int) := ⟨by omega, by omega⟩
  have rmn : rg S.min := ⟨by omega, by omega⟩
  have hf0 := Int.emod_nonneg z (show (S.min + 1) ≠ 0 by omega)
  have hf1 := Int.emod_lt_of_pos z (show 0 < (S.min + 1) by omega)
  have c556 : ∀ (H : Heap) (locs : List Loc) (T : Hl) (cells2 slots2 : Nat), HI D cy s.heap.size s.heap H locs x T → kp S T → LV T (k + 1) → cells2 ≤ cells + 9 → slots2 ≤ slots + 2061 → W p l e room_1 s m args below meth c H locs cells2 slots2 Q (F0 m 556 ls []) := fun H locs T cells2 slots2 hI hkp hLT h1 h2 => by
    have c577 : ∀ u : Int, (-1 ≤ u ∧ u ≤ 9999) → W p l e room_1 s m args below meth c H locs cells2 slots2 Q (F0 m 577 ls [iv u, iv 13, .ref x]) := fun u hu => by
      obtain ⟨T2, hS, hkp2, hpb2⟩ := t_freeze (S := T) hu
      refine fl_iconst C.1 dL_law_577 ?_
      refine fl_iconst C.1 dL_law_578 ?_
      refine k_act hst C ⟨(Nat.le_of_ble_eq_true rfl), (Nat.le_of_ble_eq_true rfl)⟩ hI hl.1 (rgk 13 rfl) ⟨by omega, by omega⟩ (rgk 0 rfl) (rgk 0 rfl) hS (Nat.le_of_ble_eq_true rfl) ⟨show cells2 + 9 ≤ 600130 by omega, show slots2 + 2061 ≤ 7301080 by omega⟩ dL_law_579 (fun H locs hI _ => ?_)
      refine fl_iconst C.1 dL_law_582 ?_
      refine fl_icmp_ne (tgt := 594) C.1 (rgk 1 rfl) (rgk 1 rfl) dL_law_583 (by decide) (fun h => absurd rfl h) (fun _ => ?_)
      obtain ⟨v, T3, hJ, hv, hkp3, hpb3⟩ := t_reveal hI.ok
      refine lv_aload_n C.1.1 C.1.2.1 dL_law_586 rfl (lv_at hl 5 rfl) ?_
      refine j_reveal C (by exact ⟨(Nat.le_of_ble_eq_true rfl), (Nat.le_of_ble_eq_true rfl)⟩) hI hl.1 hJ (Nat.le_of_ble_eq_true rfl) ⟨show cells2 + 9 + 0 ≤ 600130 by omega, show slots2 + 2061 + 0 ≤ 7301080 by omega⟩ dL_law_587 (fun H locs hI rv => ?_)
      refine fl_iconst C.1 dL_law_590 ?_
      refine fl_icmp_ge (tgt := 634) C.1 rv (rgk (-1) rfl) dL_law_591 (by decide) (fun _ => ?_) (fun h => absurd hv h)
      have hk2 : kp S T3 := ⟨⟨hkp3.1.1.trans (hkp2.1.1.trans hkp.1.1), hkp3.1.2.trans (hkp2.1.2.trans hkp.1.2)⟩, hkp3.2.trans (hkp2.2.trans hkp.2)⟩
      exact kb H locs ls T3 _ _ hI (fun i hi => by rw [hpb3, hpb2]; exact hLT i (by rw [← hkp2.1.1, ← hkp3.1.1]; exact hi)) (by rw [lvB_kp hk2]; exact lv_sub hl [1, 2, 3, 4, 5, 6, 7, 8] rfl) (by omega) (by omega)
    refine lv_aload_n C.1.1 C.1.2.1 dL_law_556 rfl (lv_at hl 5 rfl) ?_
    refine fl_bipush C.1 dL_law_557 (by decide) ?_
    refine lv_iload C.1.1 C.1.2.1 dL_law_559 (lv_at hl 1 rfl) ?_
    refine fl_iconst C.1 dL_law_561 ?_
    refine h_irem C.1 (by omega) (by decide) rfl dL_law_562 ?_
    refine fl_if_ne (tgt := 570) C.1 ⟨by omega, by omega⟩ dL_law_563 (by decide) (fun _ => ?_) (fun _ => ?_)
    · refine lv_iload C.1.1 C.1.2.1 dL_law_570 (lv_at hl 2 rfl) ?_
      refine lv_iload C.1.1 C.1.2.1 dL_law_572 (lv_at hl 8 rfl) ?_
      refine fl_iconst C.1 dL_law_574 ?_
      refine h_iadd (z := S.min + 1) C.1 (wr_id (by omega) (by omega)) dL_law_575 ?_
      refine h_irem C.1 (by omega) (by omega) rfl dL_law_576 ?_
      exact c577 _ ⟨by omega, by omega⟩
    · refine fl_iconst C.1 dL_law_566 ?_
      refine fl_goto (tgt := 577) C.1 dL_law_567 (by decide) ?_
      exact c577 (-1) (by decide)
  refine lv_iload_n C.1.1 C.1.2.1 dL_law_532 rfl (lv_at hl 7 rfl) ?_
  refine fl_if_le (tgt := 556) C.1 rq dL_law_533 (by decide) (fun _ => c556 H locs S cells slots hI ⟨⟨rfl, rfl⟩, rfl⟩ (hL.mono (Nat.le_succ k)) (by omega) (by omega)) (fun hne => ?_)
  have hz0 := Int.emod_nonneg z (show (S.ne : Int) ≠ 0 by omega)
  have hz1 := Int.emod_lt_of_pos z (show 0 < (S.ne : Int) by omega)
  have hy0 := Int.emod_nonneg y (show (8 : Int) ≠ 0 by omega)
  have hy1 := Int.emod_lt_of_pos y (show (0 : Int) < 8 by omega)
  obtain ⟨v, T, hS, hv, hkp, hLT⟩ := t_hack (S := S) (n := k) (t := y % 8) (e := z % (S.ne : Int)) hok ⟨hy0, hy1⟩ ⟨hz0, hz1⟩ (by omega) hL
  refine lv_aload_n C.1.1 C.1.2.1 dL_law_536 rfl (lv_at hl 5 rfl) ?_
  refine fl_bipush C.1 dL_law_537 (by decide) ?_
  refine lv_iload C.1.1 C.1.2.1 dL_law_539 (lv_at hl 1 rfl) ?_
  refine fl_bipush C.1 dL_law_541 (by decide) ?_
  refine h_irem C.1 (by omega) (by decide) rfl dL_law_543 ?_
  refine lv_iload C.1.1 C.1.2.1 dL_law_544 (lv_at hl 2 rfl) ?_
  refine lv_iload_n C.1.1 C.1.2.1 dL_law_546 rfl (lv_at hl 7 rfl) ?_
  refine h_irem C.1 (by omega) (by omega) rfl dL_law_547 ?_
  refine fl_iconst C.1 dL_law_548 ?_
  refine k_act hst C ⟨(Nat.le_of_ble_eq_true rfl), (Nat.le_of_ble_eq_true rfl)⟩ hI hl.1 (rgk 16 rfl) ⟨by omega, by omega⟩ ⟨by omega, by omega⟩ (rgk 0 rfl) hS (Nat.le_of_ble_eq_true rfl) ⟨show cells + 9 ≤ 600130 by omega, show slots + 2061 ≤ 7301080 by omega⟩ dL_law_549 (fun H locs hI rv => ?_)
  refine fl_iconst C.1 dL_law_552 ?_
  refine fl_icmp_gt (tgt := 594) C.1 rv (rgk 1 rfl) dL_law_553 (by decide) (fun h => absurd hv (Int.not_le.mpr h)) (fun _ => ?_)
  exact c556 H locs T _ _ hI hkp hLT (by omega) (by omega)
set_option maxRecDepth 100000 in
set_option maxHeartbeats 4000000 in
theorem lb_pass (hst : l.stackTraces = false) (C : LC p s m meth c D cy s.heap.size cL_law 14) (hk : k < 80) (hY : okY y z) (hL : LV S k) (hI : HI D cy s.heap.size s.heap H locs x S) (hl : lv_has ls 14 ((7, iv w) :: lvB b x S k y z)) (hc : cells + 60 ≤ 600130) (hs : slots + 4600 ≤ 7301080)
    (kb : ∀ (H : Heap) (locs : List Loc) (ls : Array Slot) (T : Hl) (cells2 slots2 : Nat), HI D cy s.heap.size s.heap H locs x T → LV T (k + 1) → lv_has ls 14 (lvB b x T k y z) → cells2 ≤ cells + 60 → slots2 ≤ slots + 4600 → W p l e room_1 s m args below meth c H locs cells2 slots2 Q (F0 m 634 ls [])) : W p l e room_1 s m args below meth c H locs cells slots Q (F0 m 596 ls []) := by
  have hok := hI.ok
  have hn6 := hok.2.2.1
  have hn60 := hok.2.2.2.2.1
  have hmin := hok.2.2.2.2.2.2.1
  have rp : rg (S.np : Int) := ⟨by omega, by omega⟩
  have rq : rg (S.ne : Int) := ⟨by omega, by omega⟩
  have rmn : rg S.min := ⟨by omega, by omega⟩
  have hy0 := Int.emod_nonneg y (show 99 ≠ 0 by omega)
  have hy1 := Int.emod_lt_of_pos y (show 0 < 99 by omega)
  refine lv_iload C.1.1 C.1.2.1 dL_law_596 (lv_at hl 8 rfl) ?_
  refine fl_sipush C.1 dL_law_598 (by decide) ?_
  refine fl_icmp_ge (tgt := 634) C.1 rmn (rgk 9000 rfl) dL_law_601 (by decide) (fun _ => ?_) (fun hlt => ?_)
  · exact kb H locs ls S _ _ hI (hL.mono (Nat.le_succ k)) (lv_sub hl [1, 2, 3, 4, 5, 6, 7, 8] rfl) (by omega) (by omega)
  · have hp := t_pass (S := S) (v := 1 + y % 99) ⟨by omega, by omega⟩ (by omega)
    refine lv_iload C.1.1 C.1.2.1 dL_law_604 (lv_at hl 8 rfl) ?_
    refine fl_iconst C.1 dL_law_606 ?_
    refine lv_iload C.1.1 C.1.2.1 dL_law_607 (lv_at hl 1 rfl) ?_
    refine fl_bipush C.1 dL_law_609 (by decide) ?_
    refine h_irem C.1 (by omega) (by decide) rfl dL_law_611 ?_
    refine h_iadd (z := 1 + y % 99) C.1 (wr_id (by omega) (by omega)) dL_law_612 ?_
    refine h_iadd (z := S.min + (1 + y % 99)) C.1 (wr_id (by omega) (by omega)) dL_law_613 ?_
    refine lv_istore (lv' := (4, iv (S.min + (1 + y % 99))) :: (7, iv w) :: (8, iv y) :: (9, iv z) :: [(5, iv (k : Int)), (0, .ref b), (1, .ref x), (2, iv (S.np : Int)), (3, iv (S.ne : Int))]) C.1.1 C.1.2.1 dL_law_614 hl (by decide) rfl (fun ls hl => ?_)
    refine lv_aload_n C.1.1 C.1.2.1 dL_law_616 rfl (lv_at hl 6 rfl) ?_
    refine fl_iconst C.1 dL_law_617 ?_
    refine lv_iload C.1.1 C.1.2.1 dL_law_618 (lv_at hl 2 rfl) ?_
    refine fl_bipush C.1 dL_law_620 (by decide) ?_
    refine h_irem C.1 (by omega) (by decide) rfl dL_law_622 ?_
    refine h_iadd (z := 1 + y % 99) C.1 (wr_id (by omega) (by omega)) dL_law_623 ?_
    refine j_pass hst C (by exact ⟨(Nat.le_of_ble_eq_true rfl), (Nat.le_of_ble_eq_true rfl)⟩) hI hl.1 ⟨by omega, by omega⟩ hp (Nat.le_of_ble_eq_true rfl) ⟨show cells + 2 ≤ 600130 by omega, show slots + 12 ≤ 7301080 by omega⟩ dL_law_624 (fun H locs hI rv => ?_)
    refine lv_iload C.1.1 C.1.2.1 dL_law_627 (lv_at hl 0 rfl) ?_
    refine fl_icmp_eq (tgt := 634) C.1 rv rv dL_law_629 (by decide) (fun _ => ?_) (fun h => absurd rfl h)
    exact kb H locs ls (S.sMin (S.min + (1 + y % 99))) _ _ hI (hL.same rfl rfl) (lv_sub hl [2, 3, 4, 5, 6, 7, 8, 0] rfl) (by omega) (by omega)
end LL3
