section LW5
variable {p : Program} {l : Launch} {e : Env} {s : State} {m : MethodId} {args : Array Value} {below : List Frame} {meth : Method} {c : Code} {Q : State → Prop}
variable {D : va_G} {cy : Nat → ClassId} {b N : Nat} {xs : Nat → Int32}
/-- the heap holds two cells at least: the script, and ArrayList's empty row -/
theorem two_cells (hX : va_X b N xs s s.heap) (hZ : FZ cy s.heap.size s s.heap) : 1 < s.heap.size := by
  obtain ⟨scr, h1, h2, -⟩ := hX
  obtain ⟨cell, g1, g2, -⟩ := hZ.2.2
  have l1 : b < s.heap.size := (Array.getElem?_eq_some_iff.mp h1).1
  obtain ⟨t, ht⟩ : ∃ t : Nat, t = cy 7 := ⟨_, rfl⟩
  rw [← ht] at g1
  have l2 : t < s.heap.size := (Array.getElem?_eq_some_iff.mp g1).1
  by_cases c1 : 1 < s.heap.size
  · exact c1
  · exfalso
    have e1 : b = t := by omega
    rw [← e1, h1] at g1
    obtain ⟨-, k1, k2, co1, k3⟩ := h2
    obtain ⟨-, j1, j2, co2, j3⟩ := g2
    cases g1
    rw [k2] at j2
    cases j2
    rw [k3] at j3
    cases j3
theorem FS.nil (hB : 1 < s.heap.size) : FS D cy s.heap.size [] (fun _ => 0) (fun _ _ => 0) (fun _ _ => 0) s.heap (fun _ _ => 0) s.heap [] :=
  ⟨fun k q h => by simp [va_pl] at h, ⟨fun i j p q h => by simp [va_pl] at h, fun k q h => by simp [va_pl] at h⟩, va_S.rf, fun a h => absurd rfl h, hB, Nat.le_refl _, fun _ _ => rgk 0 rfl⟩
set_option maxRecDepth 100000 in
set_option maxHeartbeats 4000000 in
/-- the law, from its entry to its end -/
theorem law_start (hst : l.stackTraces = false) (C0 : FC D cy s.heap.size p s m meth c "RejudgeHallLaw" cL_law 7) (hNC : NC s) (hX : va_X b N xs s s.heap) (hbl : b < s.heap.size) (hN : N ≤ 2048) {ls : Array Slot} (hl : lv_has ls 7 [(0, .ref b)])
    (kend : ∀ (H : Heap) (locs : List Loc) (cells slots : Nat) (ls : Array Slot), va_S (fun q : Nat => s.heap.size ≤ q) s.heap H locs → cells ≤ 601024 → slots ≤ 7293034 → W p l e room_1 s m args below meth c H locs cells slots Q (F0 m 1312 ls [])) :
    W p l e room_1 s m args below meth c s.heap [] 0 0 Q (F0 m 0 ls []) := by
  have hB := two_cells hX C0.2.2.2.2.2.2
  have hF0 := FS.nil (D := D) (cy := cy) hB
  have hW0 : WT (fun _ => 0) (fun _ _ => 0) := fun a k h => absurd rfl h
  have T0 : TL (fun _ => (99, 0, 0)) [] := fun b h => absurd h (show ¬ 99 < 20 by decide)
  have K0 : KL (fun _ => 0) [] := ⟨fun b h => absurd rfl h, fun _ => by decide⟩
  -- the hall
  refine fl_new ck_8 dv_8 C0 hF0 (co := 28) rfl aw_89 aw_90 aw_65 (Nat.le_of_ble_eq_true rfl) (Nat.le_of_ble_eq_true rfl) dL_law_0 (fun x H hx hF1 => ?_)
  refine lv_dup C0.1 C0.2.1 dL_law_3 rfl ?_
  have g1 : Gw (fun _ => False) [] (fun _ => (99, 0, 0)) (fun _ => 0) (fun _ _ => 0) (fun _ _ => 0) ([] ++ [x]) (va_up (fun _ => (99, 0, 0)) x (0, 0, 0)) (va_up (fun _ => 0) x 28) (clrN (fun _ _ => 0) x) (clr (fun _ _ => 0) x) := Gw.nw T0 K0 hx (Or.inl (by decide))
  have W1 : WT (va_up (fun _ => 0) x 28) (clrN (fun _ _ => 0) x) := fun a k h => by
    exfalso
    apply h
    by_cases z : a = x
    · rw [z, va_up_self]; rfl
    · rw [va_up_ne _ _ z]; rfl
  refine fl_avc hF1 (fl_runI (As := []) (rest := [.ref x]) C0 hF1 hl.1 (a_X7_init l D cy s.heap.size ([] ++ [x]) (va_up (fun _ => 0) x 28) (clrN (fun _ _ => 0) x) (fun _ _ => 0) (clr (fun _ _ => 0) x) W1 x (va_up_self _ _ _) (fun L2 K2 P2 I2 => ∃ tg2 : Tg, HR tg2 K2 P2 I2 x s0 ∧ TL tg2 L2) (h_init g1 hx (List.mem_append_right _ List.mem_cons_self) (va_up_self _ _ _) (fun L2 tg2 K2 P2 I2 g2 _ h2 => ⟨tg2, h2, g2.2.1⟩))) aw_91 aw_92 aw_65 aw_93 rfl rfl pm_X7_init rfl rfl ⟨Nat.le_of_ble_eq_true rfl, Nat.le_of_ble_eq_true rfl⟩ rfl (Nat.le_of_ble_eq_true rfl) dL_law_4 ⟨Nat.le_of_ble_eq_true rfl, Nat.le_of_ble_eq_true rfl⟩) (fun L1 K1 P1 I1 H locs hF2 hpost hW2 hEX kx => ?_)
  obtain ⟨tg1, hH1, hT1⟩ := hpost
  refine lv_astore_n (lv' := [(1, .ref x), (0, .ref b)]) C0.1 C0.2.1 dL_law_7 rfl hl (by decide) rfl (fun ls hl => ?_)
  -- the model
  refine fl_new ck_9 dv_9 C0 hF2 (co := 29) rfl aw_868 aw_869 aw_73 (Nat.le_of_ble_eq_true rfl) (Nat.le_of_ble_eq_true rfl) dL_law_8 (fun mo H hm hF3 => ?_)
  refine lv_dup C0.1 C0.2.1 dL_law_11 rfl ?_
  have k2 := hF2.kl
  have g2 : Gw (fun _ => False) L1 tg1 K1 P1 I1 (L1 ++ [mo]) (va_up tg1 mo (11, 0, 0)) (va_up K1 mo 29) (clrN P1 mo) (clr I1 mo) := Gw.nw hT1 k2 hm (Or.inl (by decide))
  have W3 : WT (va_up K1 mo 29) (clrN P1 mo) := fun a k h => by
    by_cases z : a = mo
    · exfalso
      apply h
      rw [z, va_up_self]; rfl
    · rw [va_up_ne _ _ z] at h ⊢
      have e1 : clrN P1 mo a k = P1 a k := by unfold clrN; rw [if_neg z]
      have e2 : K1 (P1 a k) = tt (K1 a) k := hW2 a k h
      rw [e1, va_up_ne _ _ (fun y => hm (k2.1 mo (by rw [← y, e2]; exact h))), e2]
  have x0 : XS L1 [] 0 (va_up tg1 mo (11, 0, 0)) (clrN P1 mo) (clr I1 mo) mo := ⟨va_up_self _ _ _, fun j => by
    have ec : clr I1 mo mo j = 0 := by simp [clr]
    rw [ec]
    split <;> rfl, fun k hk => nomatch hk⟩
  refine fl_avc hF3 (fl_runI (As := []) (rest := [.ref mo]) C0 hF3 hl.1 (a_X8_init l D cy s.heap.size (L1 ++ [mo]) (va_up K1 mo 29) (clrN P1 mo) (fun _ _ => 0) (clr I1 mo) W3 mo (va_up_self _ _ _) (fun L2 K2 P2 I2 => ∃ tg2 : Tg, (HR tg2 K2 P2 I2 x s0 ∧ MH tg2 P2 I2 mo s0 ∧ TL tg2 L2) ∧ K2 x = 8) (x_init g2 hm x0 (fun L2 tg2 K2 P2 I2 g3 _ h3 => ⟨tg2, ⟨hH1.gw s0_ok g3 hT1 k2 (fun _ _ => id), h3, g3.2.1⟩, (g3.k k2 (by rw [kx]; decide)).trans kx⟩))) aw_870 aw_871 aw_73 aw_872 rfl rfl pm_X8_init rfl rfl ⟨Nat.le_of_ble_eq_true rfl, Nat.le_of_ble_eq_true rfl⟩ rfl (Nat.le_of_ble_eq_true rfl) dL_law_12 ⟨Nat.le_of_ble_eq_true rfl, Nat.le_of_ble_eq_true rfl⟩) (fun L2 K2 P2 I2 H locs hF4 hpost hW4 hEX2 km => ?_)
  obtain ⟨tg2, ⟨hH2, hM2, hT2⟩, kx2⟩ := hpost
  refine lv_astore_n (lv' := [(2, .ref mo), (1, .ref x), (0, .ref b)]) C0.1 C0.2.1 dL_law_15 rfl hl (by decide) rfl (fun ls hl => ?_)
  refine fl_iconst C0 dL_law_16 ?_
  -- the row of longs
  refine fl_newl C0 hF4 (rgk 1 rfl) (by decide) (Nat.le_of_ble_eq_true rfl) aw_1175 (Nat.le_of_ble_eq_true rfl) (Nat.le_of_ble_eq_true rfl) dL_law_17 (fun o H ho hF5 => ?_)
  refine lv_astore_n (lv' := [(3, .ref o), (2, .ref mo), (1, .ref x), (0, .ref b)]) C0.1 C0.2.1 dL_law_19 rfl hl (by decide) rfl (fun ls hl => ?_)
  refine fl_iconst C0 dL_law_20 ?_
  refine lv_istore (lv' := [(4, iv 0), (3, .ref o), (2, .ref mo), (1, .ref x), (0, .ref b)]) C0.1 C0.2.1 dL_law_21 hl (by decide) rfl (fun ls hl => ?_)
  have k4 := hF4.kl
  have g5 : Gw (fun _ => False) L2 tg2 K2 P2 I2 (L2 ++ [o]) (va_up tg2 o (50, 0, 0)) (va_up K2 o (103 + 4 * (1 : Int).toNat)) (clrN P2 o) (clr I2 o) := Gw.nw hT2 k4 ho (Or.inl (by decide))
  have W5 : WT (va_up K2 o (103 + 4 * (1 : Int).toNat)) (clrN P2 o) := fun a k h => by
    by_cases z : a = o
    · exfalso
      apply h
      rw [z, va_up_self]; rfl
    · rw [va_up_ne _ _ z] at h ⊢
      have e1 : clrN P2 o a k = P2 a k := by unfold clrN; rw [if_neg z]
      have e2 : K2 (P2 a k) = tt (K2 a) k := hW4 a k h
      rw [e1, va_up_ne _ _ (fun y => ho (k4.1 o (by rw [← y, e2]; exact h))), e2]
  have nx : x ≠ o := fun z => ho (k4.1 o (by rw [← z, kx2]; decide))
  have nm : mo ≠ o := fun z => ho (k4.1 o (by rw [← z, km]; decide))
  refine law_loop (x := x) (mo := mo) (o := o) hst ⟨C0, hNC, hX, hbl⟩ hN kend 512 0 H locs ls _ _ (by omega) (by decide) (Nat.le_of_ble_eq_true rfl) (Nat.le_of_ble_eq_true rfl) ⟨_, _, _, _, _, _, s0, hF5, W5, ⟨hH2.gw s0_ok g5 hT2 k4 (fun _ _ => id), hM2.gw s0_ok g5 hT2 (fun _ _ => id), s0_ok, g5.2.1⟩, ?_, ?_, va_up_self _ _ _⟩ (lv_sub hl [4, 3, 2, 1, 0] rfl)
  · rw [va_up_ne _ _ nx]; exact kx2
  · rw [va_up_ne _ _ nm]; exact km
end LW5
