def newEn (s : Hl) (t p : Nat) : En := mkEn t p s.min s.desk (-1) (-1) 0 (-1)
def enterS (s : Hl) (t p : Int) : Out := if 0 ≤ t ∧ t < 8 then (if 0 ≤ p ∧ p < (s.np : Int) then (if s.ne < 60 then (0, (s.ne : Int), (s.sEn (s.ne + 1) (updf s.en s.ne (newEn s t.toNat p.toNat))).sDesk (0, s.desk.2)) else (2, 0, s)) else (3, 0, s)) else (3, 0, s)
theorem enterS_ok {s : Hl} (h : s.ok) {t p : Int} : (enterS s t p).2.2.ok := by
  unfold enterS
  by_cases c1 : 0 ≤ t ∧ t < 8
  · rw [if_pos c1]
    by_cases c2 : 0 ≤ p ∧ p < (s.np : Int)
    · rw [if_pos c2]
      by_cases c3 : s.ne < 60
      · rw [if_pos c3]
        obtain ⟨h1, h2, h3, h4, h5, h6, h7⟩ := h
        refine ⟨⟨Nat.zero_le _, fun j hj => absurd hj (Nat.not_lt_zero _)⟩, h2, h3, h4, c3, fun e he => ?_, h7⟩
        show (updf s.en s.ne (newEn s t.toNat p.toNat) e).ok s.np
        have he : e < s.ne + 1 := he
        unfold updf
        by_cases z : e = s.ne
        · rw [if_pos z]
          exact ⟨by show t.toNat < 8; omega, by show p.toNat < s.np; omega, h7.1, h1, ⟨show (-1 : Int) ≤ -1 by decide, show (-1 : Int) ≤ 5 by decide⟩, fun _ => ⟨rfl, rfl, rfl⟩⟩
        · rw [if_neg z]; exact h6 e (by omega)
      · rw [if_neg c3]; exact h
    · rw [if_neg c2]; exact h
  · rw [if_neg c1]; exact h
section EN1
variable {L : List Nat} {tg : Tg} {K : KT} {P : PT} {I : IT} {x m : Nat} {s : Hl}
theorem h_enter {t p : Int} (h : HR tg K P I x s) (hs : s.ok) (hT : TL tg L) (hK : KL K L) : w_X7_enter L K P I x t p (KOut tg P I x (enterS s t p)) := by
  unfold w_X7_enter enterS
  refine ⟨_, _, _, n_index, ?_, ?_⟩
  · intro hc
    by_cases c1 : 0 ≤ t ∧ t < 8
    · rw [if_pos c1] at hc; exact absurd rfl hc
    · rw [if_neg c1, if_neg c1]; exact KOut.same (by decide) h hT hK
  intro hc
  have c1 : 0 ≤ t ∧ t < 8 := Classical.byContradiction fun z => by rw [if_neg z] at hc; exact absurd hc (by decide)
  rw [if_pos c1]
  by_cases c2 : 0 ≤ p ∧ p < (s.np : Int)
  · rw [if_pos c2]
    refine ⟨_, _, _, (h_pAt h).trans (by rw [if_pos c2]), fun hc => absurd rfl hc, fun _ => ⟨h.2.2.2.1.2.1.2.1 _ (by omega), ?_⟩⟩
    have e3 : I (P x 4) 2 = (s.ne : Int) := h.2.2.2.2.1.2.1.1
    rw [e3]
    refine ⟨fun hc => ?_, fun hc => ?_⟩
    · have c3 : s.ne < 60 := by omega
      rw [if_pos c3]
      refine mk_obj (u := (6, s.ne, 0)) (co := 21) (by decide) hT hK (fun q L6 tg6 K6 P6 I6 a1 a2 g6 a4 a5 => ?_)
      have h6 := h.gw hs g6 hT hK (fun _ _ => id)
      have e6 : I6 x 10 = s.min := h6.1.2.2.1
      rw [e6, show t = ((t.toNat : Nat) : Int) by omega]
      refine mk_en (e := s.ne) g6 a1 a2 a5 (fun L2 tg2 K2 P2 I2 g2 b2 b3 bt b4 b5 b6 => ?_)
      have h2 := h.gw hs g2 hT hK (fun _ _ => id)
      obtain ⟨I3, k1, k2, k3, k4⟩ := p_take (K := K2) b4.1 h2.2.2.1.1 hs.1.1 (by decide)
      refine ⟨I3, k1, ?_⟩
      have f3 : FrT tg2 (fun u => u = (1, 0, 0) ∨ (u.1 = 4 ∧ u.2.1 = s.np) ∨ (u.1 = 6 ∧ u.2.1 = s.ne)) I2 I3 := k4.mono (fun u z => by
        rcases z with (z | z | z) | z
        · rw [z]; exact Or.inr (Or.inr ⟨rfl, rfl⟩)
        · rw [z]; exact Or.inr (Or.inr ⟨rfl, rfl⟩)
        · rw [z]; exact Or.inr (Or.inr ⟨rfl, rfl⟩)
        · exact Or.inl z)
      have h3 := h2.deskN k3 f3
      have q3 : I3 q = I2 q := k4.at bt (by simp)
      obtain ⟨a1', a2', a3', a4', a5', a6'⟩ := h3
      refine mk_add (u := (9, 0, 4)) (w := (9, 0, 14)) a5'.2.1 (by show s.ne < 66; omega) a5'.1.1 (by decide) a5'.1.2 (by decide) (by decide) b3 (by decide) g2.2.1 g2.2.2 (fun L4 tg4 K4 P4 I4 g4 l1 l2 l3 l4 l5 => ?_)
      have hb : Qb (fun z => z = ((9, 0, 4) : Nat × Nat × Nat) ∨ z = (9, 0, 14)) := fun u hu z => by
        rcases z with z | z
        · rw [z] at hu; revert hu; decide
        · rw [z] at hu; revert hu; decide
      have p0 : P4 x = P2 x := (g4.at g2.2.1 a1'.1 (show 0 < 20 by decide) (hb _ (by decide))).1
      obtain ⟨r4, r5⟩ := a4'.gw a1'.1 g4 g2.2.1 g2.2.2 hb (by decide) (by decide) (fun i k => by simp) (fun i k => by simp)
      have i4 : I4 (P4 x 4) 2 = (s.ne : Int) + 1 := by
        have : I4 (P2 x 4) 2 = ((s.ne + 1 : Nat) : Int) := l1.1
        rw [p0, this]; omega
      refine ⟨⟨rfl, fun _ => ?_⟩, tg4, ⟨a1'.gw g4 g2.2.1 g2.2.2 hb, a2'.gw a1'.1 g4 g2.2.1 hb, a3'.gw a1'.1 g4 g2.2.1 hb, r4, ?_, a6'.gw a1'.1 g4 g2.2.1 hb⟩, g4.2.1, g4.2.2, fun m s2 hm hs2 => ?_⟩
      · rw [i4, wr_id (by omega) (by omega)]
        show (s.ne : Int) + 1 - 1 = (s.ne : Int)
        omega
      · unfold HRe
        rw [p0]
        refine ⟨⟨g4.ta g2.2.1 a5'.1.1 (show 9 < 20 by decide), l4⟩, l1, fun e he => ?_⟩
        have he : e < s.ne + 1 := he
        show EnR tg4 P4 I4 (P2 x 3) e (elt P4 (P2 x 4) e) (updf s.en s.ne (newEn s t.toNat p.toNat) e)
        have el : ∀ i, i < s.np → elt P4 (P2 x 3) i = elt P2 (P2 x 3) i := fun i hi => by
          have := r5 i hi
          rw [p0] at this
          exact this
        unfold updf
        by_cases z : e = s.ne
        · rw [if_pos z, z]
          have l3 : elt P4 (P2 x 4) s.ne = q := l3
          rw [l3]
          have hp : p.toNat < s.np := by omega
          obtain ⟨v1, v2⟩ := g4.at g2.2.1 bt (show 6 < 20 by decide) (by simp)
          refine ⟨g4.ta g2.2.1 bt (show 6 < 20 by decide), ?_, ?_, ?_⟩
          · rw [v1]; exact k2.gw g4 g2.2.1 (by decide) (fun k => by simp)
          · rw [v1, b5]
            show elt P (P x 3) p.toNat = elt P4 (P2 x 3) p.toNat
            rw [el _ hp]
            have := (h.2.2.2.1.gw h.1.1 g2 hT hK (fun _ _ => id) id id (fun _ _ => id) (fun _ _ => id)).2 p.toNat hp
            exact this.symm
          · rw [v2, q3]
            exact ⟨b6.1, b6.2.1, b6.2.2⟩
        · rw [if_neg z]
          have l2 : elt P4 (P2 x 4) e = elt P2 (P2 x 4) e := l2 e (by show e < s.ne; omega)
          rw [l2]
          exact (a5'.2.2 e (by show e < s.ne; omega)).gw g4 g2.2.1 (fun k => by simp) (el _ (hs.2.2.2.2.2.1 e (by omega)).2.1)
      · have m2 := hm.gw hs2 g2 hT (fun _ _ => id)
        have m3 := m2.h hs2 (k4.mono (fun u z => by
          show u.1 ≤ 10
          rcases z with (z | z | z) | z
          · rw [z]; exact (show 6 ≤ 10 by decide)
          · rw [z]; exact (show 6 ≤ 10 by decide)
          · rw [z]; exact (show 6 ≤ 10 by decide)
          · rw [z]; exact (show 1 ≤ 10 by decide)))
        exact m3.gw hs2 g4 g2.2.1 (fun u hu z => by
          rcases z with z | z
          · rw [z] at hu; revert hu; decide
          · rw [z] at hu; revert hu; decide)
    · have c3 : ¬ s.ne < 60 := by omega
      rw [if_neg c3]
      exact KOut.same (by decide) h hT hK
  · rw [if_neg c2]
    refine ⟨_, 0, _, (h_pAt h).trans (by rw [if_neg c2]), fun _ => KOut.same (by decide) h hT hK, fun hc => absurd hc (by decide)⟩
theorem x_enter {t p : Int} (h : MH tg P I m s) (hs : s.ok) : MOut tg P m [3, 2] I (f_X8_enter K P I m t p) (enterS s t p) := by
  have hX := h.1.xd
  have hnp := hs.2.2.1
  have hne := hs.2.2.2.2.1
  have bad : ∀ v2 : Int, 0 < v2 → f_X8_enter_34 K P I m t p v2 m = some (0, up I m 38 v2) := fun v2 hv => by
    unfold f_X8_enter_34
    rw [bnd_e, up_s, if_neg (by omega)]
  unfold f_X8_enter enterS f_X8_enter_16
  rw [x_isT, bp_s]
  by_cases c1 : 0 ≤ t ∧ t < 8
  · rw [if_pos c1, if_neg (by decide), if_pos c1, x_isP h hs, bp_s]
    by_cases c2 : 0 ≤ p ∧ p < (s.np : Int)
    · rw [if_pos c2, if_neg (by decide), if_pos c2, show I m 13 = (s.ne : Int) from h.2.1.2.2.1]
      by_cases c3 : s.ne < 60
      · rw [if_neg (by omega), if_pos c3]
        obtain ⟨h1, f1⟩ := h.thr hs (v := 0)
        have e38 : up I m 38 0 m 38 = 0 := up_s _ _ _ _
        unfold f_X8_enter_34
        rw [bnd_e]
        generalize up I m 38 0 = I1 at h1 f1 e38 ⊢
        have e13 : I1 m 13 = (s.ne : Int) := h1.2.1.2.2.1
        have e0 : I1 m 0 = s.min := h1.2.1.1
        have q14 := Ne.symm (hX.1 14 (by decide))
        have q15 := Ne.symm (hX.1 15 (by decide))
        have q16 := Ne.symm (hX.1 16 (by decide))
        have q17 := Ne.symm (hX.1 17 (by decide))
        rw [e38, if_pos (by decide), e13, ck_t (by omega), bnd_e, up_b q14, e13, ck_t (by omega), bnd_e, up_b q15, up_b q14, e13, e0, ck_t (by omega), bnd_e, up_b q16, up_b q15, up_b q14, e13, ck_t (by omega), bnd_e, up_b q17, up_b q16, up_b q15, up_b q14, e13, Int.toNat_natCast, wr_id (x := 7 + (s.ne : Int)) (by omega) (by omega), show 7 + (s.ne : Int) = ((7 + s.ne : Nat) : Int) by omega]
        have w2 : FrW P m (fun k j => (k = 14 ∨ k = 15 ∨ k = 16 ∨ k = 17) ∧ j = s.ne) I1 (up (up (up (up I1 (P m 14) s.ne t) (P m 15) s.ne p) (P m 16) s.ne s.min) (P m 17) s.ne (-1)) := (FrW.u1 hX (by decide) ⟨Or.inl rfl, rfl⟩).tr ((FrW.u1 hX (by decide) ⟨Or.inr (Or.inl rfl), rfl⟩).tr ((FrW.u1 hX (by decide) ⟨Or.inr (Or.inr (Or.inl rfl)), rfl⟩).tr (FrW.u1 hX (by decide) ⟨Or.inr (Or.inr (Or.inr rfl)), rfl⟩)))
        have f14 : up (up (up (up I1 (P m 14) s.ne t) (P m 15) s.ne p) (P m 16) s.ne s.min) (P m 17) s.ne (-1) (P m 14) s.ne = t := by rw [up_b (hX.2 14 17 (by decide) (by decide) (by decide)), up_b (hX.2 14 16 (by decide) (by decide) (by decide)), up_b (hX.2 14 15 (by decide) (by decide) (by decide)), up_s]
        have f15 : up (up (up (up I1 (P m 14) s.ne t) (P m 15) s.ne p) (P m 16) s.ne s.min) (P m 17) s.ne (-1) (P m 15) s.ne = p := by rw [up_b (hX.2 15 17 (by decide) (by decide) (by decide)), up_b (hX.2 15 16 (by decide) (by decide) (by decide)), up_s]
        have f16 : up (up (up (up I1 (P m 14) s.ne t) (P m 15) s.ne p) (P m 16) s.ne s.min) (P m 17) s.ne (-1) (P m 16) s.ne = s.min := by rw [up_b (hX.2 16 17 (by decide) (by decide) (by decide)), up_s]
        have f17 : up (up (up (up I1 (P m 14) s.ne t) (P m 15) s.ne p) (P m 16) s.ne s.min) (P m 17) s.ne (-1) (P m 17) s.ne = -1 := up_s _ _ _ _
        have em : up (up (up (up I1 (P m 14) s.ne t) (P m 15) s.ne p) (P m 16) s.ne s.min) (P m 17) s.ne (-1) m = I1 m := by rw [up_b q17, up_b q16, up_b q15, up_b q14]
        have t2 : FrT tg (fun u => 11 ≤ u.1) I1 (up (up (up (up I1 (P m 14) s.ne t) (P m 15) s.ne p) (P m 16) s.ne s.min) (P m 17) s.ne (-1)) := (FrT.up (by rw [h.1.2 14 (by decide)]; decide)).tr ((FrT.up (by rw [h.1.2 15 (by decide)]; decide)).tr ((FrT.up (by rw [h.1.2 16 (by decide)]; decide)).tr (FrT.up (by rw [h.1.2 17 (by decide)]; decide))))
        generalize up (up (up (up I1 (P m 14) s.ne t) (P m 15) s.ne p) (P m 16) s.ne s.min) (P m 17) s.ne (-1) = I2 at w2 f14 f15 f16 f17 em t2 ⊢
        obtain ⟨I3, k1, k2, k3, k4, k5⟩ := x_copies (K := K) (sl := 0) (sl2 := 7 + s.ne) h.1 (by omega) (by omega) (by omega) hs.1.1 (h1.2.2.1.1.fw hs.1.1 w2 (by omega) (fun j _ => by omega))
        have k1' : f_X8_copies K P I2 m 0 ((7 + s.ne : Nat) : Int) = _ := k1
        unfold wS at k3
        have q1 := hX.1 1 (by decide)
        have e13b : up I3 (P m 1) 0 0 m 13 = (s.ne : Int) := by rw [up_b (Ne.symm q1), k4, em, e13]
        have emp : f_X8_empties K P I3 m 0 = some (up I3 (P m 1) 0 0) := by
          unfold f_X8_empties
          rw [ck_t (by omega), bnd_e, t0n]
        rw [k1', bp_s, emp, bp_s, bnd_e, up_s, e13b, wr_id (x := (s.ne : Int) + 1) (by omega) (by omega), wr_id (by omega) (by omega), show (s.ne : Int) + 1 - 1 = (s.ne : Int) by omega]
        have W : FrW P m (fun k j => wE s.ne k j ∨ k = 1 ∧ j = 0) I1 (up (up I3 (P m 1) 0 0) m 13 ((s.ne : Int) + 1)) := (w2.mono (fun k j z => Or.inl (by unfold wE; omega))).tr ((k3.mono (fun k j z => Or.inl (by unfold wE; omega))).tr ((FrW.u1 hX (by decide) (Or.inr ⟨rfl, rfl⟩)).tr (FrW.f hX)))
        unfold wE at W
        have M0 : ∀ j, j ≠ 13 → up (up I3 (P m 1) 0 0) m 13 ((s.ne : Int) + 1) m j = I1 m j := fun j hj => by rw [up_k _ _ _ _ hj, up_b (Ne.symm q1), k4, em]
        have U : ∀ k, tt 9 k ≠ 0 → ∀ j, (k ≠ 1 ∨ j ≠ 0) → up (up I3 (P m 1) 0 0) m 13 ((s.ne : Int) + 1) (P m k) j = I3 (P m k) j := fun k hk j hj => by
          rw [up_b (hX.1 k hk), up_apply, if_neg]
          rintro ⟨z1, z2⟩
          rcases hj with hj | hj
          · exact hX.2 k 1 hk (by decide) hj z1
          · exact hj z2
        obtain ⟨s1, s2, s3, s4, s5, s6, s7⟩ := hs
        obtain ⟨b1, b2, ⟨b3, b4⟩, b5, b6, b7, b8⟩ := h1
        refine ⟨_, _, rfl, fun _ => rfl, by rw [M0 38 (by decide)]; exact e38, ⟨b1, ⟨?_, ?_, ?_, ?_⟩, ⟨⟨?_, fun j hj => absurd hj (Nat.not_lt_zero _)⟩, b4.fw s2.1 W (by omega) (fun j _ => by omega)⟩, fun i (hi : i < s.np) => (b5 i hi).fw (s4 i hi) W (by omega) (fun j _ => by omega) (fun j _ => by omega) (fun j _ => by omega) (fun j _ => by omega), fun e he => ?_, b7.fw W (fun k _ => by omega) (fun k _ => by omega), b8.fw (Nat.le_refl _) W (fun i (g1 : s.np ≤ i) g2 => ⟨by omega, by omega, fun k _ => by omega⟩)⟩, f1.tr (t2.tr (k5.tr ((FrT.up (by rw [h.1.2 1 (by decide)]; decide)).tr (FrT.up (by rw [h.1.1]; decide)))))⟩
        · rw [M0 0 (by decide)]; exact b2.1
        · rw [M0 6 (by decide)]; exact b2.2.1
        · rw [up_s]; rfl
        · rw [M0 23 (by decide)]; exact b2.2.2.2
        · rw [up_b q1, up_s]; rfl
        · have he : e < s.ne + 1 := he
          show XEn P _ m e (updf s.en s.ne (newEn s t.toNat p.toNat) e)
          unfold updf
          by_cases z : e = s.ne
          · rw [if_pos z, z]
            refine ⟨⟨?_, ?_, ?_, ?_⟩, ⟨?_, fun j hj => ?_⟩, fun hv => absurd rfl hv⟩
            · rw [U 14 (by decide) _ (by omega), k3 14 _ (by decide) (by omega), f14]
              show t = ((t.toNat : Nat) : Int)
              omega
            · rw [U 15 (by decide) _ (by omega), k3 15 _ (by decide) (by omega), f15]
              show p = ((p.toNat : Nat) : Int)
              omega
            · rw [U 16 (by decide) _ (by omega), k3 16 _ (by decide) (by omega), f16]; rfl
            · rw [U 17 (by decide) _ (by omega), k3 17 _ (by decide) (by omega), f17]; rfl
            · rw [U 1 (by decide) _ (by omega)]; exact k2.1
            · rw [U 2 (by decide) _ (by omega), U 3 (by decide) _ (by omega)]; exact k2.2 j hj
          · rw [if_neg z]
            exact (b6 e (by omega)).fw (s6 e (by omega)).2.2.2.1.1 W (by omega) (fun j _ => by omega)
      · rw [if_pos (by omega), if_neg c3, bad 2 (by decide)]
        exact MOut.bad (by decide) rfl h hs rfl
    · rw [if_neg c2, if_pos rfl, if_neg c2, bad 1 (by decide)]
      exact MOut.bad (by decide) rfl h hs rfl
  · rw [if_neg c1, if_pos rfl, if_neg c1, bad 1 (by decide)]
    exact MOut.bad (by decide) rfl h hs rfl
end EN1
