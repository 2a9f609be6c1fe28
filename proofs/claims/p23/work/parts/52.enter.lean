def newEn (s : Hl) (t p : Nat) : En := mkEn t p s.min s.desk (-1) (-1) 0 (-1)
def enterS (s : Hl) (t p : Int) : Out := if 0 ≤ t ∧ t < 8 then (if 0 ≤ p ∧ p < (s.np : Int) then (if s.ne < 60 then (0, (s.ne : Int), (s.sEn (s.ne + 1) (updf s.en s.ne (newEn s t.toNat p.toNat))).sDesk (0, s.desk.2)) else (2, 0, s)) else (3, 0, s)) else (3, 0, s)
theorem enterS_ok {s : Hl} (h : s.ok) {t p : Int} : (enterS s t p).2.2.ok := by
  unfold enterS
  by_cases c1 : 0 ≤ t ∧ t < 8
  · rw [if_pos c1]
    by_cases c2 : 0 ≤ p ∧ p < (s.np : Int)
    · rw [if_pos c2]
      by_cases c3 : s.ne < 60
      · rw [if_pos c3]
        obtain ⟨h1, h2, h3, h4, h5, h6, h7⟩ := h
        refine ⟨⟨Nat.zero_le _, fun j hj => absurd hj (Nat.not_lt_zero _)⟩, h2, h3, h4, c3, fun e he => ?_, h7⟩
        show (updf s.en s.ne (newEn s t.toNat p.toNat) e).ok s.np
        have he : e < s.ne + 1 := he
        unfold updf
        by_cases z : e = s.ne
        · rw [if_pos z]
          exact ⟨by show t.toNat < 8; omega, by show p.toNat < s.np; omega, h7.1, h1, ⟨show (-1 : Int) ≤ -1 by decide, show (-1 : Int) ≤ 5 by decide⟩, fun _ => ⟨rfl, rfl, rfl⟩⟩
        · rw [if_neg z]; exact h6 e (by omega)
      · rw [if_neg c3]; exact h
    · rw [if_neg c2]; exact h
  · rw [if_neg c1]; exact h
section EN1
variable {L : List Nat} {tg : Tg} {K : KT} {P : PT} {I : IT} {x m : Nat} {s : Hl}
theorem h_enter {t p : Int} (h : HR tg K P I x s) (hs : s.ok) (hT : TL tg L) (hK : KL K L) : w_X7_enter L K P I x t p (KOut tg P I x (enterS s t p)) := by
  unfold w_X7_enter enterS
  refine ⟨_, _, _, n_index, ?_, ?_⟩
  · intro hc
    by_cases c1 : 0 ≤ t ∧ t < 8
    · rw [if_pos c1] at hc; exact absurd rfl hc
    · rw [if_neg c1, if_neg c1]; exact KOut.same (by decide) h hT hK
  intro hc
  have c1 : 0 ≤ t ∧ t < 8 := Classical.byContradiction fun z => by rw [if_neg z] at hc; exact absurd hc (by decide)
  rw [if_pos c1]
  by_cases c2 : 0 ≤ p ∧ p < (s.np : Int)
  · rw [if_pos c2]
    refine ⟨_, _, _, (h_pAt h).trans (by rw [if_pos c2]), fun hc => absurd rfl hc, fun _ => ⟨h.2.2.2.1.2.1.2.1 _ (by omega), ?_⟩⟩
    have e3 : I (P x 4) 2 = (s.ne : Int) := h.2.2.2.2.1.2.1.1
    rw [e3]
    refine ⟨fun hc => ?_, fun hc => ?_⟩
    · have c3 : s.ne < 60 := by omega
      rw [if_pos c3]
      refine mk_obj (u := (6, s.ne, 0)) (co := 21) (by decide) hT hK (fun q L6 tg6 K6 P6 I6 a1 a2 g6 a4 a5 => ?_)
      have h6 := h.gw hs g6 hT hK (fun _ _ => id)
      have e6 : I6 x 10 = s.min := h6.1.2.2.1
      rw [e6, show t = ((t.toNat : Nat) : Int) by omega]
      refine mk_en (e := s.ne) g6 a1 a2 a5 (fun L2 tg2 K2 P2 I2 g2 b2 b3 bt b4 b5 b6 => ?_)
      have h2 := h.gw hs g2 hT hK (fun _ _ => id)
      obtain ⟨I3, k1, k2, k3, k4⟩ := p_take (K := K2) b4.1 h2.2.2.1.1 hs.1.1 (by decide)
      refine ⟨I3, k1, ?_⟩
      have f3 : FrT tg2 (fun u => u = (1, 0, 0) ∨ (u.1 = 4 ∧ u.2.1 = s.np) ∨ (u.1 = 6 ∧ u.2.1 = s.ne)) I2 I3 := k4.mono (fun u z => by
        rcases z with (z | z | z) | z
        · rw [z]; exact Or.inr (Or.inr ⟨rfl, rfl⟩)
        · rw [z]; exact Or.inr (Or.inr ⟨rfl, rfl⟩)
        · rw [z]; exact Or.inr (Or.inr ⟨rfl, rfl⟩)
        · exact Or.inl z)
      have h3 := h2.deskN k3 f3
      have q3 : I3 q = I2 q := k4.at bt (by simp)
      obtain ⟨a1', a2', a3', a4', a5', a6'⟩ := h3
      refine mk_add (u := (9, 0, 4)) (w := (9, 0, 14)) a5'.2.1 (by show s.ne < 66; omega) a5'.1.1 (by decide) a5'.1.2 (by decide) (by decide) b3 (by decide) g2.2.1 g2.2.2 (fun L4 tg4 K4 P4 I4 g4 l1 l2 l3 l4 l5 => ?_)
      have hb : Qb (fun z => z = ((9, 0, 4) : Nat × Nat × Nat) ∨ z = (9, 0, 14)) := fun u hu z => by
        rcases z with z | z
        · rw [z] at hu; revert hu; decide
        · rw [z] at hu; revert hu; decide
      have p0 : P4 x = P2 x := (g4.at g2.2.1 a1'.1 (show 0 < 20 by decide) (hb _ (by decide))).1
      obtain ⟨r4, r5⟩ := a4'.gw a1'.1 g4 g2.2.1 g2.2.2 hb (by decide) (by decide) (fun i k => by simp) (fun i k => by simp)
      have i4 : I4 (P4 x 4) 2 = (s.ne : Int) + 1 := by
        have : I4 (P2 x 4) 2 = ((s.ne + 1 : Nat) : Int) := l1.1
        rw [p0, this]; omega
      refine ⟨⟨rfl, fun _ => ?_⟩, tg4, ⟨a1'.gw g4 g2.2.1 g2.2.2 hb, a2'.gw a1'.1 g4 g2.2.1 hb, a3'.gw a1'.1 g4 g2.2.1 hb, r4, ?_, a6'.gw a1'.1 g4 g2.2.1 hb⟩, g4.2.1, g4.2.2, fun m s2 hm hs2 => ?_⟩
      · rw [i4, wr_id (by omega) (by omega)]
        show (s.ne : Int) + 1 - 1 = (s.ne : Int)
        omega
      · unfold HRe
        rw [p0]
        refine ⟨⟨g4.ta g2.2.1 a5'.1.1 (show 9 < 20 by decide), l4⟩, l1, fun e he => ?_⟩
        have he : e < s.ne + 1 := he
        show EnR tg4 P4 I4 (P2 x 3) e (elt P4 (P2 x 4) e) (updf s.en s.ne (newEn s t.toNat p.toNat) e)
        have el : ∀ i, i < s.np → elt P4 (P2 x 3) i = elt P2 (P2 x 3) i := fun i hi => by
          have := r5 i hi
          rw [p0] at this
          exact this
        unfold updf
        by_cases z : e = s.ne
        · rw [if_pos z, z]
          have l3 : elt P4 (P2 x 4) s.ne = q := l3
          rw [l3]
          have hp : p.toNat < s.np := by omega
          obtain ⟨v1, v2⟩ := g4.at g2.2.1 bt (show 6 < 20 by decide) (by simp)
          refine ⟨g4.ta g2.2.1 bt (show 6 < 20 by decide), ?_, ?_, ?_⟩
          · rw [v1]; exact k2.gw g4 g2.2.1 (by decide) (fun k => by simp)
          · rw [v1, b5]
            show elt P (P x 3) p.toNat = elt P4 (P2 x 3) p.toNat
            rw [el _ hp]
            have := (h.2.2.2.1.gw h.1.1 g2 hT hK (fun _ _ => id) id id (fun _ _ => id) (fun _ _ => id)).2 p.toNat hp
            exact this.symm
          · rw [v2, q3]
            exact ⟨b6.1, b6.2.1, b6.2.2⟩
        · rw [if_neg z]
          have l2 : elt P4 (P2 x 4) e = elt P2 (P2 x 4) e := l2 e (by show e < s.ne; omega)
          rw [l2]
          exact (a5'.2.2 e (by show e < s.ne; omega)).gw g4 g2.2.1 (fun k => by simp) (el _ (hs.2.2.2.2.2.1 e (by omega)).2.1)
      · have m2 := hm.gw hs2 g2 hT (fun _ _ => id)
        have m3 := m2.h hs2 (k4.mono (fun u z => by
          show u.1 ≤ 10
          rcases z with (z | z | z) | z
          · rw [z]; exact (show 6 ≤ 10 by decide)
          · rw [z]; exact (show 6 ≤ 10 by decide)
          · rw [z]; exact (show 6 ≤ 10 by decide)
          · rw [z]; exact (show 1 ≤ 10 by decide)))
        exact m3.gw hs2 g4 g2.2.1 (fun u hu z => by
          rcases z with z | z
          · rw [z] at hu; revert hu; decide
          · rw [z] at hu; revert hu; decide)
    · have c3 : ¬ s.ne < 60 := by omega
      rw [if_neg c3]
      exact KOut.same (by decide) h hT hK
  · rw [if_neg c2]
    refine ⟨_, 0, _, (h_pAt h).trans (by rw [if_neg c2]), fun _ => KOut.same (by decide) h hT hK, fun hc => absurd hc (by decide)⟩
end EN1
