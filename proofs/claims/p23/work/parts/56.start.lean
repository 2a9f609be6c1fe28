/-! WHAT THE LAW FINDS AT ITS START -/
theorem st_known {C : String} {T : u_T} {ci : Nat} {ty : Nat → FieldType} {n : Nat} {A : Array Value} {s : State} (hC : Cls ci C T ty) (hts : ∀ w ∈ AW, w.before A s = true) (hi : Cond.instantiable C n ∈ AW) : ∃ (cC : ClassId) (iS : Nat → Nat), u_Kn s C T (knf ci) cC iS := u_known hts hC.2.1 (hts _ hi)
theorem st_K {A : Array Value} {s : State} (hts : ∀ w ∈ AW, w.before A s = true) : ∃ D : va_G, ∀ (k : Nat) (q : vw_C), vwCl[k]? = some q → u_Kn s q.1 q.2.1 q.2.2 (D.1 k) (D.2 k) := by
  obtain ⟨c0, i0, h0⟩ := st_known ck_0 hts aw_139
  obtain ⟨c1, i1, h1⟩ := st_known ck_1 hts aw_366
  obtain ⟨c2, i2, h2⟩ := st_known ck_2 hts aw_113
  obtain ⟨c3, i3, h3⟩ := st_known ck_3 hts aw_439
  obtain ⟨c4, i4, h4⟩ := st_known ck_4 hts aw_77
  obtain ⟨c5, i5, h5⟩ := st_known ck_5 hts aw_98
  obtain ⟨c6, i6, h6⟩ := st_known ck_6 hts aw_165
  obtain ⟨c7, i7, h7⟩ := st_known ck_7 hts aw_683
  obtain ⟨c8, i8, h8⟩ := st_known ck_8 hts aw_69
  refine ⟨(fun k => match k with | 0 => c0 | 1 => c1 | 2 => c2 | 3 => c3 | 4 => c4 | 5 => c5 | 6 => c6 | 7 => c7 | _ => c8, fun k => match k with | 0 => i0 | 1 => i1 | 2 => i2 | 3 => i3 | 4 => i4 | 5 => i5 | 6 => i6 | 7 => i7 | _ => i8), fun k q hq => ?_⟩
  match k, hq with
  | 0, hq => cases hq; exact h0
  | 1, hq => cases hq; exact h1
  | 2, hq => cases hq; exact h2
  | 3, hq => cases hq; exact h3
  | 4, hq => cases hq; exact h4
  | 5, hq => cases hq; exact h5
  | 6, hq => cases hq; exact h6
  | 7, hq => cases hq; exact h7
  | 8, hq => cases hq; exact h8
  | k + 9, hq => simp [vwCl] at hq
theorem st_arr {A : Array Value} {s : State} {ty : FieldType} (h : (Cond.arrayClass ty).before A s = true) (hp : ∀ C, ty ≠ .object C) : ∃ cA : ClassId, ArrOfT s cA ty ∧ s.vm.findClass ("[" ++ ty.toString) = some cA := by
  obtain ⟨cA, kA, comp, h1, h2, h3⟩ := Cond.arrayClass_spec h
  exact ⟨cA, fun n z => ⟨fun k h => (by cases h), kA, h2, comp, h3⟩, h1⟩
theorem st_arrO {A : Array Value} {s : State} {C : String} (h : (Cond.arrayOver (.object C)).before A s = true) : ∃ cA : ClassId, ArrOfT s cA (.object C) ∧ va_RA s cA (.object C) := by
  obtain ⟨comp, cA, kA, h1, h2, h3, h4, h5⟩ := Cond.arrayOver_spec h
  exact ⟨cA, fun n z => ⟨fun k h => (by cases h), kA, h3, comp, h4⟩, kA, comp, h3, h4, h1, h5⟩
theorem st_all {A : Array Value} {s : State} (htl : ∀ w ∈ lw_tbl, w.before A s = true) (hgv : (Jvm.Cond.and given_1 narrow_1).before A s = true) : ∃ (D : va_G) (cy : Nat → ClassId), FK D cy s ∧ FZ cy s.heap.size s s.heap ∧ NC s := by
  have hts : ∀ w ∈ AW, w.before A s = true := fun w hw => htl w (List.mem_filter.mp hw).1
  have hs := flat_of_before _ hgv
  have hA : ∀ a : Nat, a < s.heap.size → ¬ (fun q : Nat => s.heap.size ≤ q) a := fun a ha => Nat.not_le.mpr ha
  obtain ⟨D, hD⟩ := st_K hts
  obtain ⟨cI, aI, nI⟩ := st_arr (hts _ aw_96) (fun C h => by cases h)
  obtain ⟨cZ, aZ, nZ⟩ := st_arr (hts _ aw_189) (fun C h => by cases h)
  have hAO : (Cond.arrayOver (.object "java/lang/Object")).before A s = true := htl _ (by decide +kernel)
  obtain ⟨cO, aO, nO⟩ := st_arrO hAO
  have hlen : (Term.length (.static "java/util/ArrayList" "DEFAULTCAPACITY_EMPTY_ELEMENTDATA" "[Ljava/lang/Object;")).eval A s none [] s = some (.int (Int32.ofNat 0)) := va_eqt (hs _ (by decide +kernel))
  obtain ⟨t7, ht7, hT7⟩ := va_Tof (N := 0) (f := fun _ => .null) (ty := .object "java/lang/Object") (A := fun q : Nat => s.heap.size ≤ q) (by decide) (hs _ (by decide +kernel)) hlen (fun j hj => absurd hj (Nat.not_lt_zero _)) hA
  refine ⟨D, fun k => match k with | 0 => cI | 1 => cZ | 2 => cO | _ => t7, ⟨⟨hD, fun k q hq => ?_⟩, fun w hw => mvW_of (List.mem_filter.mp hw).2 (hts w hw), fun t ht => ?_, va_AO.of hAO, va_Mi.of (hs (.isRef (.mirror "[Ljava/lang/Object;")) (by decide +kernel))⟩, ⟨⟨vx_Zqof (htl _ (by decide +kernel)) (hts _ aw_53) (hs _ (by decide +kernel)) hA, vx_Zqof (htl _ (by decide +kernel)) (hts _ aw_53) (hs _ (by decide +kernel)) hA⟩, va_Zof (htl _ (by decide +kernel)) (hts _ aw_51) ht7 hA, hT7⟩, fun k k' h1 h2 h3 => ?_⟩
  · match k, hq with
    | 0, hq => cases hq; exact ⟨aI, nI⟩
    | 1, hq => cases hq; exact ⟨aZ, nZ⟩
    | 2, hq => cases hq; exact ⟨aO, nO⟩
    | k + 3, hq => simp [ctys] at hq
  · have hw : ∀ t ∈ txts, Cond.stringRef "RejudgeHall" t.1 t.2 ∈ lw_tbl := by decide +kernel
    have h1 := htl _ (hw t ht)
    obtain ⟨k, cf, i, a, -, -, -, -, -, h2⟩ := Cond.stringRef_spec (hD 8 _ rfl).2.1 h1
    exact ⟨a, vk_R.of h1 h2⟩
  · rcases h1 with rfl | rfl | rfl <;> rcases h2 with rfl | rfl | rfl
    · exact absurd rfl h3
    · exact va_Nc.of (hs _ (by decide +kernel))
    · exact va_Nc.of (hs _ (by decide +kernel))
    · exact va_Nc.of (hs _ (by decide +kernel))
    · exact absurd rfl h3
    · exact va_Nc.of (hs _ (by decide +kernel))
    · exact va_Nc.of (hs _ (by decide +kernel))
    · exact va_Nc.of (hs _ (by decide +kernel))
    · exact absurd rfl h3
