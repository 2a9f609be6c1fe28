/-! THE LAW'S LOOP -/
theorem hnm0 {ks : List Nat} {co : Nat} (h : hnm ks co = 0) : co = 0 := by
  unfold hnm at h
  by_cases c : co = 0
  · exact c
  · rw [if_neg c] at h
    omega
theorem codeS_co {s : Hl} {w v : Int} : (codeS s w v).1 = 0 ∨ (codeS s w v).1 = 1 ∨ (codeS s w v).1 = 2 := by
  unfold codeS
  repeat' split
  all_goals first | exact Or.inl rfl | exact Or.inr (Or.inl rfl) | exact Or.inr (Or.inr rfl)
theorem inputS_co {s : Hl} {v : Int} : (inputS s v).1 = 0 ∨ (inputS s v).1 = 1 ∨ (inputS s v).1 = 2 := by
  unfold inputS
  repeat' split
  all_goals first | exact Or.inl rfl | exact Or.inr (Or.inl rfl) | exact Or.inr (Or.inr rfl)
theorem callRun_co {s : Hl} {w v : Int} : (callRun s w v).1 = 0 ∨ (callRun s w v).1 = 1 := by
  unfold callRun
  repeat' split
  all_goals first | exact Or.inl rfl | exact Or.inr rfl
theorem problemS_co {s : Hl} {w v : Int} : (problemS s w v).1 = 0 ∨ (problemS s w v).1 = 1 ∨ (problemS s w v).1 = 2 := by
  unfold problemS
  repeat' split
  all_goals first | exact Or.inl rfl | exact Or.inr (Or.inl rfl) | exact Or.inr (Or.inr rfl)
theorem testS_co {s : Hl} {w v : Int} : (testS s w v).1 = 0 ∨ (testS s w v).1 = 3 ∨ (testS s w v).1 = 2 := by
  unfold testS
  repeat' split
  all_goals first | exact Or.inl rfl | exact Or.inr (Or.inl rfl) | exact Or.inr (Or.inr rfl)
theorem pointsS_co {s : Hl} {p w v : Int} : (pointsS s p w v).1 = 0 ∨ (pointsS s p w v).1 = 3 ∨ (pointsS s p w v).1 = 1 := by
  unfold pointsS
  repeat' split
  all_goals first | exact Or.inl rfl | exact Or.inr (Or.inl rfl) | exact Or.inr (Or.inr rfl)
theorem mendS_co {s : Hl} {w v : Int} : (mendS s w v).1 = 0 ∨ (mendS s w v).1 = 3 ∨ (mendS s w v).1 = 1 ∨ (mendS s w v).1 = 2 := by
  unfold mendS
  repeat' split
  all_goals first | exact Or.inl rfl | exact Or.inr (Or.inl rfl) | exact Or.inr (Or.inr (Or.inl rfl)) | exact Or.inr (Or.inr (Or.inr rfl))
theorem answerS_co {s : Hl} {p w v : Int} : (answerS s p w v).1 = 0 ∨ (answerS s p w v).1 = 3 := by
  unfold answerS
  repeat' split
  all_goals first | exact Or.inl rfl | exact Or.inr rfl
theorem enterS_co {s : Hl} {w v : Int} : (enterS s w v).1 = 0 ∨ (enterS s w v).1 = 3 ∨ (enterS s w v).1 = 2 := by
  unfold enterS
  repeat' split
  all_goals first | exact Or.inl rfl | exact Or.inr (Or.inl rfl) | exact Or.inr (Or.inr rfl)
theorem passS_co {s : Hl} {v : Int} : (passS s v).1 = 0 ∨ (passS s v).1 = 1 ∨ (passS s v).1 = 2 := by
  unfold passS
  repeat' split
  all_goals first | exact Or.inl rfl | exact Or.inr (Or.inl rfl) | exact Or.inr (Or.inr rfl)
theorem rejudgeS_co {s : Hl} {v : Int} : (rejudgeS s v).1 = 0 ∨ (rejudgeS s v).1 = 3 := by
  unfold rejudgeS
  repeat' split
  all_goals first | exact Or.inl rfl | exact Or.inr rfl
theorem entryS_co {s : Hl} {w v : Int} : (entryS s w v).1 = 0 ∨ (entryS s w v).1 = 3 ∨ (entryS s w v).1 = 1 := by
  unfold entryS
  repeat' split
  all_goals first | exact Or.inl rfl | exact Or.inr (Or.inl rfl) | exact Or.inr (Or.inr rfl)
theorem likenessS_co {s : Hl} {w v : Int} : (likenessS s w v).1 = 0 ∨ (likenessS s w v).1 = 3 := by
  unfold likenessS
  repeat' split
  all_goals first | exact Or.inl rfl | exact Or.inr rfl
theorem freezeS_co {s : Hl} {v : Int} : (freezeS s v).1 = 0 ∨ (freezeS s v).1 = 1 := by
  unfold freezeS
  repeat' split
  all_goals first | exact Or.inl rfl | exact Or.inr rfl
theorem boardS_co {s : Hl} {p w v : Int} : (boardS s p w v).1 = 0 ∨ (boardS s p w v).1 = 3 ∨ (boardS s p w v).1 = 1 := by
  unfold boardS
  by_cases c1 : 0 ≤ p ∧ p < 8
  · rw [if_pos c1]
    by_cases c2 : 0 ≤ v ∧ v ≤ 4
    · rw [if_pos c2]; exact Or.inl rfl
    · rw [if_neg c2]; exact Or.inr (Or.inr rfl)
  · rw [if_neg c1]; exact Or.inr (Or.inl rfl)
theorem placeAnewS_co {s : Hl} {v : Int} : (placeAnewS s v).1 = 0 ∨ (placeAnewS s v).1 = 3 := by
  unfold placeAnewS
  repeat' split
  all_goals first | exact Or.inl rfl | exact Or.inr rfl
theorem hackS_co {s : Hl} {w v : Int} : (hackS s w v).1 = 0 ∨ (hackS s w v).1 = 3 ∨ (hackS s w v).1 = 2 := by
  unfold hackS
  by_cases c1 : 0 ≤ w ∧ w < 8
  · rw [if_pos c1]
    by_cases c2 : 0 ≤ v ∧ v < (s.ne : Int)
    · rw [if_pos c2]
      unfold hackIn
      by_cases c3 : hackC s w.toNat v.toNat
      · rw [if_pos c3]
        by_cases c4 : hackV s v.toNat = 0
        · rw [if_pos c4]; exact Or.inl rfl
        · rw [if_neg c4]; exact Or.inl rfl
      · rw [if_neg c3]; exact Or.inr (Or.inr rfl)
    · rw [if_neg c2]; exact Or.inr (Or.inl rfl)
  · rw [if_neg c1]; exact Or.inr (Or.inl rfl)
/-- a number of the script -/
def sv (xs : Nat → Int32) (n : Nat) : Int := (xs n).toInt
theorem rg_sv {xs : Nat → Int32} {n : Nat} : rg (sv xs n) := rg_toInt _
section LW1
variable {p : Program} {l : Launch} {e : Env} {s : State} {m : MethodId} {args : Array Value} {below : List Frame} {meth : Method} {c : Code} {H : Heap} {locs : List Loc} {cells slots : Nat} {Q : State → Prop}
variable {D : va_G} {cy : Nat → ClassId} {b N : Nat} {xs : Nat → Int32} {L : List Nat} {K : KT} {P : PT} {J I : IT} {ls : Array Slot} {rest : List Value} {x mo o i pc : Nat}
theorem FS.kl {B : Nat} {H0 : Heap} (hF : FS D cy B L K P J H0 I H locs) : KL K L := ⟨hF.2.2.2.1, fun _ => by
  by_cases z : K 1 = 0
  · omega
  · obtain ⟨k, hk⟩ := hF.get z
    have h1 := hF.2.1.2 k _ hk
    have h2 := hF.2.2.2.2.1
    have h3 : B ≤ 1 := h1
    omega⟩
/-- what stands all the while -/
def LX (p : Program) (s : State) (m : MethodId) (meth : Method) (c : Code) (D : va_G) (cy : Nat → ClassId) (b N : Nat) (xs : Nat → Int32) : Prop := FC D cy s.heap.size p s m meth c "RejudgeHallLaw" cL_law 7 ∧ NC s ∧ va_X b N xs s s.heap ∧ b < s.heap.size
/-- both halls hold one and the same -/
def LI (D : va_G) (cy : Nat → ClassId) (s : State) (H : Heap) (locs : List Loc) (x mo o : Nat) : Prop := ∃ (tg : Tg) (L : List Nat) (K : KT) (P : PT) (J I : IT) (S : Hl), FS D cy s.heap.size L K P J s.heap I H locs ∧ WT K P ∧ (HR tg K P I x S ∧ MH tg P I mo S ∧ S.ok ∧ TL tg L) ∧ (K x = 8 ∧ K mo = 9 ∧ K o = 107)
abbrev lv5 (b x mo o i : Nat) : List (Nat × Value) := [(0, .ref b), (1, .ref x), (2, .ref mo), (3, .ref o), (4, iv (i : Int))]
abbrev lv6 (b x mo o i : Nat) (h : Int) : List (Nat × Value) := [(0, .ref b), (1, .ref x), (2, .ref mo), (3, .ref o), (4, iv (i : Int)), (5, iv h)]
/-- the script's number behind the call -/
theorem lw_arg {jn : Nat} (C : LX p s m meth c D cy b N xs) (hS : va_S (fun q : Nat => s.heap.size ≤ q) s.heap H locs) (hb0 : ls[0]? = some (.val (.ref b))) (hb4 : ls[4]? = some (.val (iv (i : Int)))) (hi : i + jn < N) (hN : N ≤ 2048)
    (D0 : decode cL_law pc = .ok (.aload_n 0, 1)) (D1 : decode cL_law (pc + 1) = .ok (.iload 4, 2)) (D3 : decode cL_law (pc + 3) = .ok (.iconst (jn : Int), 1)) (D4 : decode cL_law (pc + 4) = .ok (.iadd, 1)) (D5 : decode cL_law (pc + 5) = .ok (.iaload, 1))
    (kk : W p l e room_1 s m args below meth c H locs cells slots Q (F0 m (pc + 6) ls (iv (sv xs (i + jn)) :: rest))) : W p l e room_1 s m args below meth c H locs cells slots Q (F0 m pc ls rest) := by
  obtain ⟨C0, hN', hX, hbl⟩ := C
  refine lv_aload_n C0.1 C0.2.1 D0 rfl hb0 ?_
  refine lv_iload C0.1 C0.2.1 D1 hb4 ?_
  refine fl_iconst C0 D3 ?_
  refine fl_iadd C0 D4 ?_
  have e1 : wr ((i : Int) + (jn : Int)) = ((i + jn : Nat) : Int) := by rw [wr_id (by omega) (by omega)]; omega
  rw [e1]
  have rn : rg ((i + jn : Nat) : Int) := ⟨by omega, by omega⟩
  refine va_sld C0.1 C0.2.1 hX hbl (Nat.not_le.mpr hbl) hS (of_in rn ⟨by omega, by omega⟩) D5 ?_
  rw [of_clamp rn, Int.toNat_natCast, ← iv_toInt]
  exact kk
/-- behind both calls: the same throw or none, the same answer -/
theorem lw_tail {t : Nat} {off h r2 : Int} (C : LX p s m meth c D cy b N xs) (hF : FS D cy s.heap.size L K P J s.heap I H locs) (hWT : WT K P) (km : K mo = 9) (ko : K o = 107) (e38 : I mo 38 = h) (rh : rg h) (rr : rg r2) (hJ : h = 0 → J o 0 = r2) (hl : lv_has ls 7 (lv6 b x mo o i h))
    (D0 : decode cL_law t = .ok (.istore 6, 2)) (D2 : decode cL_law (t + 2) = .ok (.aload_n 2, 1)) (D3 : decode cL_law (t + 3) = .ok (.invokevirtual 82, 3)) (D6 : decode cL_law (t + 6) = .ok (.iload 5, 2)) (D8 : decode cL_law (t + 8) = .ok (.if_icmp .eq 5, 3)) (D13 : decode cL_law (t + 13) = .ok (.iload 5, 2)) (D15 : decode cL_law (t + 15) = .ok (.ifCond .ne 15, 3)) (D18 : decode cL_law (t + 18) = .ok (.aload_n 3, 1)) (D19 : decode cL_law (t + 19) = .ok (.iconst 0, 1)) (D20 : decode cL_law (t + 20) = .ok (.laload, 1)) (D21 : decode cL_law (t + 21) = .ok (.iload 6, 2)) (D23 : decode cL_law (t + 23) = .ok (.i2l, 1)) (D24 : decode cL_law (t + 24) = .ok (.lcmp, 1)) (D25 : decode cL_law (t + 25) = .ok (.ifCond .eq 5, 3)) (D30 : decode cL_law (t + 30) = .ok (.goto off, 3)) (ht : ((t + 30 : Nat) : Int) + off = ((1306 : Nat) : Int)) (hc : cells ≤ 601024) (hs : slots ≤ 7293034)
    (kk : ∀ (H : Heap) (locs : List Loc) (ls : Array Slot), FS D cy s.heap.size L K P J s.heap I H locs → lv_has ls 7 (lv5 b x mo o i) → W p l e room_1 s m args below meth c H locs cells slots Q (F0 m 1306 ls [])) : W p l e room_1 s m args below meth c H locs cells slots Q (F0 m t ls [iv r2]) := by
  obtain ⟨C0, hN', hX, hbl⟩ := C
  refine lv_istore (lv' := [(6, iv r2), (0, .ref b), (1, .ref x), (2, .ref mo), (3, .ref o), (4, iv (i : Int)), (5, iv h)]) C0.1 C0.2.1 D0 hl (by decide) rfl (fun ls hl => ?_)
  refine lv_aload_n C0.1 C0.2.1 D2 rfl (lv_at hl 3 rfl) ?_
  have hf : f_X8_thrown K P I mo = some (I mo 38) := rfl
  refine fl_ri hF (fl_runV (As := []) (rest := []) C0 hF hl.1 ck_9 km rfl (c_X8_thrown l D cy s.heap.size L K P J hWT I mo km hf) aw_992 aw_993 aw_994 aw_73 aw_995 rfl rfl pm_X8_thrown rfl rfl ⟨Nat.le_of_ble_eq_true rfl, Nat.le_of_ble_eq_true rfl⟩ rfl (Nat.le_of_ble_eq_true rfl) D3 ⟨hc, hs⟩) (fun H locs hF2 rr2 => ?_)
  refine lv_iload C0.1 C0.2.1 D6 (lv_at hl 6 rfl) ?_
  rw [e38]
  refine fl_icmp_eq (tgt := t + 13) C0 rh rh D8 (by omega) (fun _ => ?_) (fun q => absurd rfl q)
  refine lv_iload C0.1 C0.2.1 D13 (lv_at hl 6 rfl) ?_
  have fin : ∀ (H : Heap) (locs : List Loc), FS D cy s.heap.size L K P J s.heap I H locs → W p l e room_1 s m args below meth c H locs cells slots Q (F0 m (t + 30) ls []) := fun H locs hF3 => by
    refine fl_goto (tgt := 1306) C0 D30 ht ?_
    exact kk H locs ls hF3 (lv_sub hl [1, 2, 3, 4, 5] rfl)
  refine fl_if_ne (tgt := t + 30) C0 rh D15 (by omega) (fun _ => fin H locs hF2) (fun h0 => ?_)
  refine lv_aload_n C0.1 C0.2.1 D18 rfl (lv_at hl 4 rfl) ?_
  refine fl_iconst C0 D19 ?_
  refine fl_lald (n := 1) C0 hF2 ko (rgk 0 rfl) (by decide) D20 ?_
  rw [show (0 : Int).toNat = 0 from rfl, hJ h0]
  refine lv_iload C0.1 C0.2.1 D21 (lv_at hl 0 rfl) ?_
  refine fl_i2l C0 rr D23 ?_
  refine fl_lcmp C0 (rl_rg rr) (rl_rg rr) D24 ?_
  have ec : cmpl r2 r2 = 0 := by unfold cmpl; rw [if_neg (by omega), if_pos rfl]
  rw [ec]
  exact fl_if_eq (tgt := t + 30) C0 (rgk 0 rfl) D25 (by omega) (fun _ => fin H locs hF2) (fun q => absurd rfl q)
end LW1
