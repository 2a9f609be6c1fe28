/-! LIKENESS is the same both ways -/
def lkT (g q : Pg) : Nat → Nat → Int
  | 0, _ => 0
  | _ + 1, 0 => 0
  | i + 1, j + 1 => if alk g i q j then wr (lkT g q i j + 1) else if lkT g q i (j + 1) < lkT g q (i + 1) j then lkT g q (i + 1) j else lkT g q i (j + 1)
theorem lkT_0 {g q : Pg} : ∀ i, lkT g q i 0 = 0
  | 0 => by unfold lkT; rfl
  | _ + 1 => by unfold lkT; rfl
theorem lkT_z {g q : Pg} : ∀ j, lkT g q 0 j = 0 := fun j => by unfold lkT; rfl
theorem lkT_s {g q : Pg} {i j : Nat} : lkT g q (i + 1) (j + 1) = if alk g i q j then wr (lkT g q i j + 1) else if lkT g q i (j + 1) < lkT g q (i + 1) j then lkT g q (i + 1) j else lkT g q i (j + 1) := by
  rw [lkT]
theorem alk_sym {g q : Pg} {i j : Nat} (h : alk g i q j) : alk q j g i := ⟨h.1.symm, fun z => (h.2 (by rw [h.1]; exact z)).symm⟩
theorem lkT_sym {g q : Pg} : ∀ n i j : Nat, i + j ≤ n → lkT g q i j = lkT q g j i
  | 0, i, j, h => by
    have h1 : i = 0 := by omega
    have h2 : j = 0 := by omega
    rw [h1, h2, lkT_0, lkT_0]
  | n + 1, i, j, h => by
    cases i with
    | zero => rw [lkT_z, lkT_0]
    | succ i =>
      cases j with
      | zero => rw [lkT_z, lkT_0]
      | succ j =>
        have e1 := lkT_sym (g := g) (q := q) n i j (by omega)
        have e2 := lkT_sym (g := g) (q := q) n i (j + 1) (by omega)
        have e3 := lkT_sym (g := g) (q := q) n (i + 1) j (by omega)
        rw [lkT_s, lkT_s, e1, e2, e3]
        by_cases c : alk g i q j
        · rw [if_pos c, if_pos (alk_sym c)]
        · rw [if_neg c, if_neg (fun z => c (alk_sym z))]
          by_cases c1 : lkT q g (j + 1) i < lkT q g j (i + 1)
          · rw [if_pos c1, if_neg (by omega)]
          · rw [if_neg c1]
            by_cases c2 : lkT q g j (i + 1) < lkT q g (j + 1) i
            · rw [if_pos c2]
            · rw [if_neg c2]
              omega
theorem lkJ_T {g q : Pg} {i : Nat} : ∀ (d j : Nat) (dg : Int) (f : Nat → Int), (∀ m, m ≤ j → f m = lkT g q (i + 1) m) → (∀ m, j < m → m ≤ j + d → f m = lkT g q i m) → dg = lkT g q i j → ∀ m, m ≤ j + d → lkJ g q i d j dg f m = lkT g q (i + 1) m
  | 0, j, _, f, h1, _, _ => fun m hm => h1 m (by omega)
  | d + 1, j, dg, f, h1, h2, h3 => fun m hm => by
    have e : lkJ g q i (d + 1) j dg f = lkJ g q i d (j + 1) (f (j + 1)) (updf f (j + 1) (if alk g i q j then wr (dg + 1) else if f (j + 1) < f j then f j else f (j + 1))) := rfl
    rw [e]
    have f1 : f (j + 1) = lkT g q i (j + 1) := h2 (j + 1) (by omega) (by omega)
    have f0 : f j = lkT g q (i + 1) j := h1 j (Nat.le_refl _)
    refine lkJ_T d (j + 1) _ _ (fun k hk => ?_) (fun k hk1 hk2 => ?_) f1 m (by omega)
    · unfold updf
      by_cases c : k = j + 1
      · rw [if_pos c, c, lkT_s, h3, f1, f0]
      · rw [if_neg c]
        exact h1 k (by omega)
    · unfold updf
      rw [if_neg (by omega)]
      exact h2 k (by omega) (by omega)
theorem lkI_T {g q : Pg} : ∀ (d i : Nat) (f : Nat → Int), (∀ m, m ≤ q.1 → f m = lkT g q i m) → ∀ m, m ≤ q.1 → lkI g q d i f m = lkT g q (i + d) m
  | 0, i, f, h => h
  | d + 1, i, f, h => fun m hm => by
    have e : lkI g q (d + 1) i f = lkI g q d (i + 1) (lkJ g q i q.1 0 0 f) := rfl
    rw [e, show i + (d + 1) = i + 1 + d by omega]
    refine lkI_T d (i + 1) _ (fun k hk => ?_) m hm
    refine lkJ_T q.1 0 0 f (fun k hk => ?_) (fun k _ hk2 => h k (by omega)) (lkT_0 i).symm k (by omega)
    have hk0 : k = 0 := by omega
    rw [hk0, h 0 (Nat.zero_le _), lkT_0, lkT_0]
theorem imax_sym {x y : Int} : imax x y = imax y x := by
  unfold imax
  by_cases c : x < y
  · rw [if_pos c, if_neg (by omega)]
  · rw [if_neg c]
    by_cases c2 : y < x
    · rw [if_pos c2]
    · rw [if_neg c2]
      omega
theorem likeV_sym {g q : Pg} : likeV g q = likeV q g := by
  have h1 : lkI g q g.1 0 (fun _ => 0) q.1 = lkT g q g.1 q.1 := by
    rw [lkI_T g.1 0 (fun _ => 0) (fun m _ => (lkT_z m).symm) q.1 (Nat.le_refl _), Nat.zero_add]
  have h2 : lkI q g q.1 0 (fun _ => 0) g.1 = lkT q g q.1 g.1 := by
    rw [lkI_T q.1 0 (fun _ => 0) (fun m _ => (lkT_z m).symm) g.1 (Nat.le_refl _), Nat.zero_add]
  unfold likeV
  rw [h1, h2, lkT_sym (g.1 + q.1) g.1 q.1 (Nat.le_refl _), imax_sym]
theorem like_eq {s : Hl} {a b : Int} (ha : 0 ≤ a ∧ a < (s.ne : Int)) (hb : 0 ≤ b ∧ b < (s.ne : Int)) : likenessS s a b = (0, likeV (s.en a.toNat).prg (s.en b.toNat).prg, s) := if_pos ⟨ha, hb⟩
