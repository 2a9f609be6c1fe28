theorem stepS_e {g : Pg} {r : Rw} {s : MS} : 0 ≤ (stepS g r s).1 ∧ (stepS g r s).1 ≤ 4 := by
  have hp : ∀ (s : MS) (v : Int), 0 ≤ (s.put v).1 ∧ (s.put v).1 ≤ 4 := fun s v => by
    unfold MS.put
    split
    · exact ⟨Int.le_refl _, show (0 : Int) ≤ 4 by decide⟩
    · exact ⟨show (0 : Int) ≤ 3 by decide, show (3 : Int) ≤ 4 by decide⟩
  have hg : ∀ (s : MS) (n : Nat) (v : Int), 0 ≤ (s.go n v).1 ∧ (s.go n v).1 ≤ 4 := fun s n v => by
    unfold MS.go
    split
    · exact ⟨Int.le_refl _, show (0 : Int) ≤ 4 by decide⟩
    · exact ⟨show (0 : Int) ≤ 4 by decide, Int.le_refl _⟩
  have z0 : ∀ s : MS, 0 ≤ ((0, s) : Int × MS).1 ∧ ((0, s) : Int × MS).1 ≤ 4 := fun s => ⟨Int.le_refl _, show (0 : Int) ≤ 4 by decide⟩
  have z3 : ∀ s : MS, 0 ≤ ((3, s) : Int × MS).1 ∧ ((3, s) : Int × MS).1 ≤ 4 := fun s => ⟨show (0 : Int) ≤ 3 by decide, show (3 : Int) ≤ 4 by decide⟩
  have z4 : ∀ s : MS, 0 ≤ ((4, s) : Int × MS).1 ∧ ((4, s) : Int × MS).1 ≤ 4 := fun s => ⟨show (0 : Int) ≤ 4 by decide, Int.le_refl _⟩
  unfold stepS
  dsimp only
  split
  · split
    · exact hp _ _
    · exact z4 _
  · split
    · exact hp _ _
    · split
      · unfold MS.make MS.made
        split
        · split
          · exact z0 _
          · exact z4 _
        · exact z4 _
      · split
        · split
          · exact hp _ _
          · exact z4 _
        · split
          · unfold MS.swap
            split
            · exact z0 _
            · exact z4 _
          · split
            · split
              · split
                · exact hg _ _ _
                · exact z0 _
              · exact z4 _
            · split
              · exact hg _ _ _
              · unfold MS.print
                split
                · split
                  · exact z0 _
                  · exact z3 _
                · exact z4 _
theorem runS_e {g : Pg} {r : Rw} : ∀ (k : Nat) (s : MS), 0 ≤ (runS g r k s).1 ∧ (runS g r k s).1 ≤ 4 := by
  intro k
  induction k with
  | zero =>
    intro s
    rw [runS_z]
    split
    · exact ⟨Int.le_refl _, show (0 : Int) ≤ 4 by decide⟩
    · exact ⟨show (0 : Int) ≤ 2 by decide, show (2 : Int) ≤ 4 by decide⟩
  | succ k ih =>
    intro s
    rw [runS_s]
    split
    · exact ⟨Int.le_refl _, show (0 : Int) ≤ 4 by decide⟩
    · split
      · exact ih _
      · exact stepS_e
theorem tryS_e {g : Pg} {lim : Nat} {chk : Int} {inp ans : Rw} : 0 ≤ tryS g lim chk inp ans ∧ tryS g lim chk inp ans ≤ 5 := by
  have h : 0 ≤ (runA g inp lim).e ∧ (runA g inp lim).e ≤ 4 := runS_e lim ms0
  unfold tryS
  by_cases c1 : (runA g inp lim).e = 0
  · rw [if_pos c1]
    by_cases c2 : wth (if chk = 1 then 1 else 0) (runA g inp lim).o ans
    · rw [if_pos c2]; exact ⟨by decide, by decide⟩
    · rw [if_neg c2]
      by_cases c3 : (runA g inp lim).o.1 = 0
      · rw [if_pos c3]; exact ⟨by decide, by decide⟩
      · rw [if_neg c3]; exact ⟨by decide, by decide⟩
  · rw [if_neg c1]; omega
theorem vd_rg {b : Pb} {g : Pg} : 0 ≤ b.vd g ∧ b.vd g ≤ 5 := by
  unfold Pb.vd
  split
  · exact ⟨by decide, by decide⟩
  · exact tryS_e
theorem judE_ok {s : Hl} {e : Nat} (h : s.ok) (he : e < s.ne) : (judE s e).ok := by
  have hn := h.2.2.2.2.2.1 e he
  have hv := vd_rg (b := s.pb (s.en e).prob) (g := (s.en e).prg)
  have h1 : (s.sE1 e (mkEn (s.en e).team (s.en e).prob (s.en e).whn (s.en e).prg ((s.pb (s.en e).prob).vd (s.en e).prg) ((s.pb (s.en e).prob).ff (s.en e).prg (s.pb (s.en e).prob).nt) (ptsS (s.pb (s.en e).prob).pts ((s.pb (s.en e).prob).grp (s.en e).prg) 4) (s.pb (s.en e).prob).ver)).ok :=
    Hl.e1_ok h ⟨hn.1, hn.2.1, hn.2.2.1, hn.2.2.2.1, ⟨Int.le_trans (by decide) hv.1, hv.2⟩, fun q => absurd hv.1 (by
      have q : (s.pb (s.en e).prob).vd (s.en e).prg = -1 := q
      omega)⟩
  exact h1
