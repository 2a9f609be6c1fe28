theorem frE_inv {s : Hl} {v : Nat → Int} {t p c : Nat} : ∀ n, frE s v t p n = (c : Int) → c < n ∧ frE s v t p c = -1 ∧ ((s.en c).team = t ∧ (s.en c).prob = p ∧ v c = 0) ∧ trE s v t p n = trE s v t p c
  | 0, h => by
    have : (-1 : Int) = (c : Int) := h
    omega
  | n + 1, h => by
    by_cases c1 : frE s v t p n = -1
    · by_cases c2 : (s.en n).team = t ∧ (s.en n).prob = p ∧ v n = 0
      · have := frE_n c1 c2
        rw [h] at this
        obtain rfl : c = n := by omega
        exact ⟨by omega, c1, c2, trE_o (fun z => z.2.2.2.2 c2.2.2)⟩
      · have := frE_o (s := s) (v := v) (t := t) (p := p) (k := n) c2
        rw [h, c1] at this
        omega
    · have e := frE_s c1
      rw [h] at e
      obtain ⟨h1, h2, h3, h4⟩ := frE_inv n e.symm
      exact ⟨by omega, h2, h3, (trE_o (fun z => c1 z.1)).trans h4⟩
theorem frE_lo {s : Hl} {v : Nat → Int} {t p : Nat} : ∀ n, frE s v t p n = -1 → ∀ j, j ≤ n → frE s v t p j = -1
  | 0, h, j, hj => by
    obtain rfl : j = 0 := by omega
    exact h
  | n + 1, h, j, hj => by
    by_cases c : j = n + 1
    · rw [c]; exact h
    · refine frE_lo n ?_ j (by omega)
      by_cases c1 : frE s v t p n = -1
      · exact c1
      · rw [frE_s c1] at h; exact absurd h c1
theorem frE_hi {s : Hl} {v : Nat → Int} {t p k : Nat} (h : frE s v t p k = -1) (h2 : (s.en k).team = t ∧ (s.en k).prob = p ∧ v k = 0) : ∀ q, k + 1 ≤ q → frE s v t p q = (k : Int) := by
  intro q hq
  induction q with
  | zero => omega
  | succ q ih =>
    by_cases z : k = q
    · subst z; exact frE_n h h2
    · have := ih (by omega)
      rw [frE_s (by rw [this]; omega), this]
section BO3
variable {tg : Tg} {K : KT} {P : PT} {I : IT} {x m a b i c p e : Nat} {s : Hl} {ks : List Nat} {v : Nat → Int}
/-- writes of the model's scratch alone, the boards' with it -/
def FrZ (tg : Tg) (m : Nat) (I I' : IT) : Prop := (∀ b, b ≠ m → ¬ ((tg b).1 = 12 ∧ 28 ≤ (tg b).2.2) → I' b = I b) ∧ ∀ j, j < 25 → I' m j = I m j
theorem FrZ.rf : FrZ tg m I I := ⟨fun _ _ _ => rfl, fun _ _ => rfl⟩
theorem FrZ.tr {I1 I2 : IT} (h : FrZ tg m I I1) (h2 : FrZ tg m I1 I2) : FrZ tg m I I2 := ⟨fun b g1 g2 => (h2.1 b g1 g2).trans (h.1 b g1 g2), fun j hj => (h2.2 j hj).trans (h.2 j hj)⟩
theorem FrY.z {I' : IT} (h : FrY tg m I I') : FrZ tg m I I' := ⟨fun b g1 g2 => h.1 b g1 (fun z => g2 ⟨z.1, z.2.1⟩), h.2⟩
theorem FrZ.ua {k j : Nat} {v : Int} (hT : XT tg P m) (hk : tt 9 k ≠ 0) (h28 : 28 ≤ k) : FrZ tg m I (up I (P m k) j v) := by
  refine ⟨fun b _ g2 => up_b (fun q => g2 ?_), fun i _ => by rw [up_b (Ne.symm (hT.xd.1 k hk))]⟩
  rw [q, hT.2 k hk]
  exact ⟨rfl, h28⟩
theorem FrZ.w {I' : IT} (hT : XT tg P m) (h : FrZ tg m I I') : FrW P m (fun k _ => 28 ≤ k) I I' := fun k j hk hn => by
  rw [h.1 _ (hT.xd.1 k hk) (fun q => hn (by rw [hT.2 k hk] at q; exact q.2))]
theorem FrZ.ft {I' : IT} (hT : XT tg P m) (h : FrZ tg m I I') : FrT tg (fun u => 11 ≤ u.1) I I' := fun b hb => h.1 b (fun q => hb (by show 11 ≤ (tg b).1; rw [q, hT.1]; decide)) (fun q => hb (by show 11 ≤ (tg b).1; rw [q.1]; decide))
theorem MH.z {I' : IT} (h : MH tg P I m s) (hs : s.ok) (hf : FrZ tg m I I') : MH tg P I' m s := h.w hs (hf.w h.1) hf.2
/-- the model holds the hall, and what is told of each entry -/
def BV (tg : Tg) (P : PT) (I : IT) (m : Nat) (s : Hl) (v : Nat → Int) : Prop := MH tg P I m s ∧ ∀ e, e < s.ne → I (P m 33) e = v e
/-- only the boards' places of a team are written -/
def FB (P : PT) (m t : Nat) (I I' : IT) : Prop := ∀ b j, ¬ ((b = P m 34 ∨ b = P m 35 ∨ b = P m 36) ∧ j = t) → I' b j = I b j
theorem FB.rf {t : Nat} : FB P m t I I := fun _ _ _ => rfl
theorem FB.tr {I1 I2 : IT} {t : Nat} (h : FB P m t I I1) (h2 : FB P m t I1 I2) : FB P m t I I2 := fun b j hb => (h2 b j hb).trans (h b j hb)
theorem FB.u {t k : Nat} {w : Int} (hk : k = 34 ∨ k = 35 ∨ k = 36) : FB P m t I (up I (P m k) t w) := fun b j hb => by
  rw [up_apply, if_neg]
  rintro ⟨g1, g2⟩
  refine hb ⟨?_, g2⟩
  rcases hk with rfl | rfl | rfl
  · exact Or.inl g1
  · exact Or.inr (Or.inl g1)
  · exact Or.inr (Or.inr g1)
theorem FB.z {I' : IT} {t : Nat} (hT : XT tg P m) (h : FB P m t I I') : FrZ tg m I I' := by
  have hX := hT.xd
  refine ⟨fun b g1 g2 => ?_, fun j hj => h m j ?_⟩
  · funext j
    refine h b j ?_
    rintro ⟨z | z | z, -⟩
    · exact g2 (by rw [z, hT.2 34 (by decide)]; exact ⟨rfl, by decide⟩)
    · exact g2 (by rw [z, hT.2 35 (by decide)]; exact ⟨rfl, by decide⟩)
    · exact g2 (by rw [z, hT.2 36 (by decide)]; exact ⟨rfl, by decide⟩)
  · rintro ⟨z | z | z, -⟩
    · exact hX.1 34 (by decide) z.symm
    · exact hX.1 35 (by decide) z.symm
    · exact hX.1 36 (by decide) z.symm
theorem FB.em {I' : IT} {t : Nat} (hT : XT tg P m) (h : FB P m t I I') : I' m = I m := by
  have hX := hT.xd
  funext j
  refine h m j ?_
  rintro ⟨z | z | z, -⟩
  · exact hX.1 34 (by decide) z.symm
  · exact hX.1 35 (by decide) z.symm
  · exact hX.1 36 (by decide) z.symm
theorem BV.fb {I' : IT} {t : Nat} (h : BV tg P I m s v) (hs : s.ok) (hf : FB P m t I I') : BV tg P I' m s v := by
  have hX := h.1.1.xd
  refine ⟨h.1.z hs (hf.z h.1.1), fun e he => ?_⟩
  rw [hf (P m 33) e]
  · exact h.2 e he
  · rintro ⟨z | z | z, -⟩
    · exact hX.2 33 34 (by decide) (by decide) (by decide) z
    · exact hX.2 33 35 (by decide) (by decide) (by decide) z
    · exact hX.2 33 36 (by decide) (by decide) (by decide) z
/-- one team's boards, its first problems -/
def PS (P : PT) (I : IT) (m : Nat) (s : Hl) (v : Nat → Int) (t n : Nat) : Prop := I (P m 34) t = Sg (bS s v t s.ne) n ∧ I (P m 35) t = Sg (bU s v t s.ne) n ∧ I (P m 36) t = Mx (bL s v t s.ne) n
theorem ext6 {t : Nat} (hs : s.ok) : Sg (bS s v t s.ne) 6 = Sg (bS s v t s.ne) s.np ∧ Sg (bU s v t s.ne) 6 = Sg (bU s v t s.ne) s.np ∧ Mx (bL s v t s.ne) 6 = Mx (bL s v t s.ne) s.np := by
  have hnp := hs.2.2.1
  have no : ∀ p, s.np ≤ p → ∀ k, k ≤ s.ne → frE s v t p k = -1 := fun p hp k => by
    induction k with
    | zero => exact fun _ => rfl
    | succ k ih =>
      intro hk
      rw [frE_o (fun z => by have := (hs.2.2.2.2.2.1 k (by omega)).2.1; omega)]
      exact ih (by omega)
  have e : s.np + (6 - s.np) = 6 := by omega
  have rL := Mx_rg (f := bL s v t s.ne) (u := 9999) (by decide) s.np (fun p => bL_rg hs (Nat.le_refl _) p)
  have h1 := Sg_ext (f := bS s v t s.ne) (n := s.np) (6 - s.np) (fun p hp => if_pos (no p hp _ (Nat.le_refl _)))
  have h2 := Sg_ext (f := bU s v t s.ne) (n := s.np) (6 - s.np) (fun p hp => if_pos (no p hp _ (Nat.le_refl _)))
  have h3 := Mx_ext (f := bL s v t s.ne) (n := s.np) rL.1 (6 - s.np) (fun p hp => if_pos (no p hp _ (Nat.le_refl _)))
  rw [e] at h1 h2 h3
  exact ⟨h1, h2, h3⟩
end BO3
