/-! THE PLACES are 0 to 7, each once -/
theorem ahd_iff {S U L : Nat → Int} {a b : Nat} : ahd S U L a b = 1 ↔ (S b < S a ∨ (S a = S b ∧ (U a < U b ∨ (U a = U b ∧ (L a < L b ∨ (L a = L b ∧ a < b)))))) := by
  unfold ahd
  by_cases c1 : S a = S b
  · rw [if_pos c1]
    by_cases c2 : U a = U b
    · rw [if_pos c2]
      by_cases c3 : L a = L b
      · rw [if_pos c3]
        by_cases c4 : b ≤ a
        · rw [if_pos c4]; omega
        · rw [if_neg c4]; omega
      · rw [if_neg c3]
        by_cases c4 : L b ≤ L a
        · rw [if_pos c4]; omega
        · rw [if_neg c4]; omega
    · rw [if_neg c2]
      by_cases c4 : U b ≤ U a
      · rw [if_pos c4]; omega
      · rw [if_neg c4]; omega
  · rw [if_neg c1]
    by_cases c4 : S a ≤ S b
    · rw [if_pos c4]; omega
    · rw [if_neg c4]; omega
theorem ahd_tr {S U L : Nat → Int} {o a b : Nat} (h1 : ahd S U L o a = 1) (h2 : ahd S U L a b = 1) : ahd S U L o b = 1 := by
  rw [ahd_iff] at h1 h2 ⊢
  omega
theorem ahd_to {S U L : Nat → Int} {a b : Nat} (h : a ≠ b) : ahd S U L a b = 1 ∨ ahd S U L b a = 1 := by
  rw [ahd_iff, ahd_iff]
  omega
theorem plc_le {S U L : Nat → Int} {a b : Nat} (h : ahd S U L a b = 1) : ∀ k, plc S U L a k + (if a < k then 1 else 0) ≤ plc S U L b k
  | 0 => by rw [if_neg (Nat.not_lt_zero _)]; exact Int.le_refl _
  | k + 1 => by
    have ih := plc_le h k
    have e1 : plc S U L a (k + 1) = plc S U L a k + ahd S U L k a := rfl
    have e2 : plc S U L b (k + 1) = plc S U L b k + ahd S U L k b := rfl
    rw [e1, e2]
    by_cases c : k = a
    · have z1 : ahd S U L k a = 0 := by rw [c]; exact ahd_rf
      have z2 : ahd S U L k b = 1 := by rw [c]; exact h
      rw [if_pos (by omega), z1, z2]
      rw [if_neg (by omega)] at ih
      omega
    · have hm : ahd S U L k a ≤ ahd S U L k b := by
        rcases ahd01 (S := S) (U := U) (L := L) (a := k) (b := a) with z | z
        · rw [z]
          rcases ahd01 (S := S) (U := U) (L := L) (a := k) (b := b) with y | y <;> rw [y] <;> decide
        · rw [z, ahd_tr z h]
          decide
      by_cases c2 : a < k
      · rw [if_pos c2] at ih
        rw [if_pos (by omega)]
        omega
      · rw [if_neg c2] at ih
        rw [if_neg (by omega)]
        omega
theorem plc_inj {S U L : Nat → Int} {a b : Nat} (ha : a < 8) (hb : b < 8) (h : plc S U L a 8 = plc S U L b 8) : a = b := by
  by_cases c : a = b
  · exact c
  · exfalso
    rcases ahd_to (S := S) (U := U) (L := L) c with z | z
    · have h1 := plc_le z 8
      rw [if_pos ha] at h1
      omega
    · have h1 := plc_le z 8
      rw [if_pos hb] at h1
      omega
theorem plc_lt {S U L : Nat → Int} {a : Nat} (ha : a < 8) : 0 ≤ plc S U L a 8 ∧ plc S U L a 8 < 8 := by
  have h0 := plc_rg (S := S) (U := U) (L := L) (t := a) 8
  have hs : ∀ k, plc S U L a k ≤ (k : Int) - (if a < k then 1 else 0) := by
    intro k
    induction k with
    | zero => rw [if_neg (Nat.not_lt_zero _)]; exact Int.le_refl _
    | succ k ih =>
      have e1 : plc S U L a (k + 1) = plc S U L a k + ahd S U L k a := rfl
      rw [e1]
      by_cases c : k = a
      · have z1 : ahd S U L k a = 0 := by rw [c]; exact ahd_rf
        rw [z1, if_pos (by omega)]
        rw [if_neg (by omega)] at ih
        omega
      · have h2 := ahd01 (S := S) (U := U) (L := L) (a := k) (b := a)
        by_cases c2 : a < k
        · rw [if_pos c2] at ih
          rw [if_pos (by omega)]
          omega
        · rw [if_neg c2] at ih
          rw [if_neg (by omega)]
          omega
  have h1 := hs 8
  rw [if_pos ha] at h1
  omega
/-- one to one, so onto -/
theorem onto_of : ∀ (n : Nat) (f : Nat → Nat), (∀ i, i < n → f i < n) → (∀ i j, i < n → j < n → f i = f j → i = j) → ∀ v, v < n → ∃ i, i < n ∧ f i = v
  | 0, _, _, _ => fun v hv => absurd hv (Nat.not_lt_zero _)
  | n + 1, f, hf, hi => by
    intro v hv
    have hl : f n < n + 1 := hf n (Nat.lt_succ_self n)
    by_cases c : v = f n
    · exact ⟨n, Nat.lt_succ_self n, c.symm⟩
    · have hg : ∀ i, i < n → (if f i = n then f n else f i) < n := fun i h => by
        have h1 := hf i (by omega)
        by_cases z : f i = n
        · rw [if_pos z]
          have : f n ≠ n := fun y => by
            have := hi i n (by omega) (by omega) (z.trans y.symm)
            omega
          omega
        · rw [if_neg z]; omega
      have hgi : ∀ i j, i < n → j < n → (if f i = n then f n else f i) = (if f j = n then f n else f j) → i = j := fun i j h1 h2 h => by
        by_cases z1 : f i = n
        · by_cases z2 : f j = n
          · exact hi i j (by omega) (by omega) (z1.trans z2.symm)
          · rw [if_pos z1, if_neg z2] at h
            have := hi n j (by omega) (by omega) h
            omega
        · by_cases z2 : f j = n
          · rw [if_neg z1, if_pos z2] at h
            have := hi i n (by omega) (by omega) h
            omega
          · rw [if_neg z1, if_neg z2] at h
            exact hi i j (by omega) (by omega) h
      by_cases c2 : v = n
      · -- the place n is f's at some i < n, or f n would be n
        have hfn : f n < n := by omega
        obtain ⟨i, h1, h2⟩ := onto_of n (fun i => if f i = n then f n else f i) hg hgi (f n) hfn
        have h2 : (if f i = n then f n else f i) = f n := h2
        by_cases z : f i = n
        · exact ⟨i, by omega, by omega⟩
        · rw [if_neg z] at h2
          have := hi i n (by omega) (by omega) h2
          omega
      · obtain ⟨i, h1, h2⟩ := onto_of n (fun i => if f i = n then f n else f i) hg hgi v (by omega)
        have h2 : (if f i = n then f n else f i) = v := h2
        by_cases z : f i = n
        · rw [if_pos z] at h2
          omega
        · rw [if_neg z] at h2
          exact ⟨i, by omega, h2⟩
/-- the bits that places leave -/
def orp (f : Nat → Int) : Nat → Int
  | 0 => 0
  | t + 1 => bor (orp f t) (bsl 1 (f t))
def orN (f : Nat → Nat) : Nat → Nat
  | 0 => 0
  | t + 1 => orN f t ||| 2 ^ f t
theorem bor_nat : ∀ a : Nat, a < 256 → ∀ v : Nat, v < 8 → bor (a : Int) (bsl 1 (v : Int)) = ((a ||| 2 ^ v : Nat) : Int) ∧ (a ||| 2 ^ v) < 256 := by decide +kernel
theorem all_bits : ∀ a : Nat, a < 256 → (∀ v : Nat, v < 8 → a.testBit v = true) → a = 255 := by decide +kernel
theorem orp_N {f : Nat → Int} {g : Nat → Nat} (h : ∀ t, t < 8 → f t = (g t : Int) ∧ g t < 8) : ∀ t, t ≤ 8 → orp f t = (orN g t : Int) ∧ orN g t < 256
  | 0, _ => ⟨rfl, show 0 < 256 by decide⟩
  | t + 1, ht => by
    obtain ⟨h1, h2⟩ := orp_N h t (by omega)
    obtain ⟨h3, h4⟩ := h t (by omega)
    have e : orp f (t + 1) = bor (orp f t) (bsl 1 (f t)) := rfl
    rw [e, h1, h3]
    exact bor_nat _ h2 _ h4
theorem orN_bit {g : Nat → Nat} {v : Nat} : ∀ t, (∃ i, i < t ∧ g i = v) → (orN g t).testBit v = true
  | 0, h => by obtain ⟨i, h1, -⟩ := h; exact absurd h1 (Nat.not_lt_zero _)
  | t + 1, h => by
    obtain ⟨i, h1, h2⟩ := h
    have e : orN g (t + 1) = orN g t ||| 2 ^ g t := rfl
    rw [e, Nat.testBit_or]
    by_cases c : i = t
    · rw [← c, h2, Nat.testBit_two_pow_self, Bool.or_true]
    · rw [orN_bit t ⟨i, by omega, h2⟩, Bool.true_or]
theorem orp_255 {f : Nat → Int} (h : ∀ t, t < 8 → 0 ≤ f t ∧ f t < 8) (hi : ∀ a b, a < 8 → b < 8 → f a = f b → a = b) : orp f 8 = 255 := by
  have hN : ∀ t, t < 8 → f t = ((f t).toNat : Int) ∧ (f t).toNat < 8 := fun t ht => by have := h t ht; omega
  obtain ⟨h1, h2⟩ := orp_N hN 8 (Nat.le_refl _)
  rw [h1, all_bits _ h2 (fun v hv => orN_bit 8 (onto_of 8 (fun t => (f t).toNat) (fun i hi' => (hN i hi').2) (fun i j h3 h4 h5 => hi i j h3 h4 (by have a1 := (hN i h3).1; have a2 := (hN j h4).1; have h5 : (f i).toNat = (f j).toNat := h5; rw [a1, a2, h5])) v hv))]
  rfl
theorem orp_cong {f g : Nat → Int} : ∀ n, (∀ t, t < n → f t = g t) → orp f n = orp g n
  | 0, _ => rfl
  | n + 1, h => by
    show bor (orp f n) (bsl 1 (f n)) = bor (orp g n) (bsl 1 (g n))
    rw [orp_cong n (fun t ht => h t (by omega)), h n (by omega)]
theorem orp_rg {f : Nat → Int} : ∀ n, rg (orp f n)
  | 0 => rgk 0 rfl
  | _ + 1 => rg_bor _ _
theorem board_pl {s : Hl} {z : Int} {t : Nat} (ht : t < 8) : boardS s (t : Int) z 0 = (0, brP s (vT s z) t, s) := by
  unfold boardS
  rw [if_pos (show 0 ≤ (t : Int) ∧ (t : Int) < 8 by omega), if_pos (by decide), if_neg (by decide), if_pos rfl, Int.toNat_natCast]
theorem anew_pl {s : Hl} {t : Nat} (ht : t < 8) : placeAnewS s (t : Int) = (0, brP s (aN s) t, s) := by
  unfold placeAnewS
  rw [if_pos (show 0 ≤ (t : Int) ∧ (t : Int) < 8 by omega), Int.toNat_natCast]
theorem brP_255 {s : Hl} {v : Nat → Int} : orp (fun t => brP s v t) 8 = 255 := orp_255 (fun _ ht => plc_lt ht) (fun _ _ ha hb h => plc_inj ha hb h)
theorem idn_255 : orp (fun t => (t : Int)) 8 = 255 := by decide +kernel
