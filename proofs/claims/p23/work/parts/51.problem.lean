/-- what a maker comes to: its answer, and the pool behind it -/
def KOut (tg : Tg) (P : PT) (I : IT) (x : Nat) (q : Out) (co : Nat) (r : Int) (L1 : List Nat) (K1 : KT) (P1 : PT) (I1 : IT) : Prop := (co = q.1 ∧ (co = 0 → r = q.2.1)) ∧ ∃ tg1 : Tg, HR tg1 K1 P1 I1 x q.2.2 ∧ TL tg1 L1 ∧ KL K1 L1 ∧ ∀ (m : Nat) (s2 : Hl), MH tg P I m s2 → s2.ok → MH tg1 P1 I1 m s2
def newPb (s : Hl) (lim : Nat) (chk : Int) : Pb := mkPb lim chk 0 s.desk 0 tr0 (fun _ => 25)
def problemS (s : Hl) (lim chk : Int) : Out := if 1 ≤ lim ∧ lim ≤ 500 then (if 0 ≤ chk ∧ chk ≤ 1 then (if s.np < 6 then (0, (s.np : Int), (s.sPb (s.np + 1) (updf s.pb s.np (newPb s lim.toNat chk))).sDesk (0, s.desk.2)) else (2, 0, s)) else (1, 0, s)) else (1, 0, s)
theorem problemS_ok {s : Hl} (h : s.ok) {lim chk : Int} : (problemS s lim chk).2.2.ok := by
  unfold problemS
  by_cases c1 : 1 ≤ lim ∧ lim ≤ 500
  · rw [if_pos c1]
    by_cases c2 : 0 ≤ chk ∧ chk ≤ 1
    · rw [if_pos c2]
      by_cases c3 : s.np < 6
      · rw [if_pos c3]
        obtain ⟨h1, h2, h3, h4, h5, h6, h7⟩ := h
        refine ⟨⟨Nat.zero_le _, fun j hj => absurd hj (Nat.not_lt_zero _)⟩, h2, c3, fun j hj => ?_, h5, fun e he => ?_, h7⟩
        · show (updf s.pb s.np (newPb s lim.toNat chk) j).ok
          have hj : j < s.np + 1 := hj
          unfold updf
          by_cases z : j = s.np
          · rw [if_pos z]
            exact ⟨⟨by show 1 ≤ lim.toNat; omega, by show lim.toNat ≤ 500; omega⟩, by show chk = 0 ∨ chk = 1; omega, h1, Nat.zero_le _, fun j hj => absurd hj (Nat.not_lt_zero _), fun k _ => ⟨show (0 : Int) ≤ 25 by decide, show (25 : Int) ≤ 100 by decide⟩⟩
          · rw [if_neg z]; exact h4 j (by omega)
        · obtain ⟨a1, a2, a3⟩ := h6 e he
          exact ⟨a1, Nat.lt_succ_of_lt a2, a3⟩
      · rw [if_neg c3]; exact h
    · rw [if_neg c2]; exact h
  · rw [if_neg c1]; exact h
section PM1
variable {L : List Nat} {tg : Tg} {K : KT} {P : PT} {I : IT} {x m : Nat} {s : Hl}
theorem KOut.same {co : Nat} (hc : co ≠ 0) (h : HR tg K P I x s) (hT : TL tg L) (hK : KL K L) : KOut tg P I x (co, 0, s) co 0 L K P I := ⟨⟨rfl, fun z => absurd z hc⟩, tg, h, hT, hK, fun _ _ h2 _ => h2⟩
/-- the desk's program another, while a problem or an entry is being made -/
theorem HR.deskN {I' : IT} {g : Pg} (h : HR tg K P I x s) (h2 : PgR tg P I' (P x 0) 1 0 0 g) (hf : FrT tg (fun u => u = (1, 0, 0) ∨ (u.1 = 4 ∧ u.2.1 = s.np) ∨ (u.1 = 6 ∧ u.2.1 = s.ne)) I I') : HR tg K P I' x (s.sDesk g) := by
  obtain ⟨a1, a2, a3, ⟨a4, a4b, a4c⟩, ⟨a5, a5b, a5c⟩, a6⟩ := h
  have gg : ∀ t i c, (t ≠ 1 ∨ c ≠ 0) → (t ≠ 4 ∨ i ≠ s.np) → (t ≠ 6 ∨ i ≠ s.ne) → ¬ (((t, i, c) : Nat × Nat × Nat) = (1, 0, 0) ∨ (((t, i, c) : Nat × Nat × Nat).1 = 4 ∧ ((t, i, c) : Nat × Nat × Nat).2.1 = s.np) ∨ (((t, i, c) : Nat × Nat × Nat).1 = 6 ∧ ((t, i, c) : Nat × Nat × Nat).2.1 = s.ne)) := by
    intro t i c q1 q2 q3 z
    simp only [Prod.mk.injEq] at z
    omega
  exact ⟨a1.fr hf (gg _ _ _ (by omega) (by omega) (by omega)), a2, ⟨h2, a3.2.fr hf (fun _ => gg _ _ _ (by omega) (by omega) (by omega))⟩, ⟨a4, a4b.fr (hf.at a4.1 (gg _ _ _ (by omega) (by omega) (by omega))), fun i (hi : i < s.np) => (a4c i hi).fr hf (fun k => gg _ _ _ (by omega) (by omega) (by omega)) (fun k => gg _ _ _ (by omega) (by omega) (by omega))⟩, ⟨a5, a5b.fr (hf.at a5.1 (gg _ _ _ (by omega) (by omega) (by omega))), fun i (hi : i < s.ne) => (a5c i hi).fr hf (fun k => gg _ _ _ (by omega) (by omega) (by omega))⟩, a6.fr hf ⟨gg _ _ _ (by omega) (by omega) (by omega), gg _ _ _ (by omega) (by omega) (by omega), gg _ _ _ (by omega) (by omega) (by omega)⟩⟩
theorem h_problem {lim chk : Int} (h : HR tg K P I x s) (hs : s.ok) (hT : TL tg L) (hK : KL K L) : w_X7_problem L K P I x lim chk (KOut tg P I x (problemS s lim chk)) := by
  unfold w_X7_problem problemS
  refine ⟨_, _, _, n_range, ?_, ?_⟩
  · intro hc
    by_cases c1 : 1 ≤ lim ∧ lim ≤ 500
    · rw [if_pos c1] at hc; exact absurd rfl hc
    · rw [if_neg c1, if_neg c1]; exact KOut.same (by decide) h hT hK
  intro hc
  have c1 : 1 ≤ lim ∧ lim ≤ 500 := Classical.byContradiction fun z => by rw [if_neg z] at hc; exact absurd hc (by decide)
  rw [if_pos c1]
  refine ⟨_, _, _, n_range, ?_, ?_⟩
  · intro hc
    by_cases c2 : 0 ≤ chk ∧ chk ≤ 1
    · rw [if_pos c2] at hc; exact absurd rfl hc
    · rw [if_neg c2, if_neg c2]; exact KOut.same (by decide) h hT hK
  intro hc
  have c2 : 0 ≤ chk ∧ chk ≤ 1 := Classical.byContradiction fun z => by rw [if_neg z] at hc; exact absurd hc (by decide)
  rw [if_pos c2]
  have e3 : I (P x 3) 2 = (s.np : Int) := h.2.2.2.1.2.1.1
  rw [e3]
  refine ⟨fun hc => ?_, fun hc => ?_⟩
  · have c3 : s.np < 6 := by omega
    rw [if_pos c3]
    refine mk_obj (u := (4, s.np, 0)) (co := 23) (by decide) hT hK (fun q L6 tg6 K6 P6 I6 a1 a2 g6 a4 a5 => ?_)
    have h6 := h.gw hs g6 hT hK (fun _ _ => id)
    have e6 : I6 (P6 x 3) 2 = (s.np : Int) := h6.2.2.2.1.2.1.1
    rw [e6, show lim = ((lim.toNat : Nat) : Int) by omega]
    refine mk_pb (i := s.np) (lim := lim.toNat) (chk := chk) g6 a1 a2 a5 (fun L2 tg2 K2 P2 I2 g2 b2 b3 b4 => ?_)
    have h2 := h.gw hs g2 hT hK (fun _ _ => id)
    obtain ⟨I3, k1, k2, k3, k4⟩ := p_take (K := K2) b4.2.2.1.1 h2.2.2.1.1 hs.1.1 (by decide)
    refine ⟨I3, k1, ?_⟩
    have f3 : FrT tg2 (fun u => u = (1, 0, 0) ∨ (u.1 = 4 ∧ u.2.1 = s.np) ∨ (u.1 = 6 ∧ u.2.1 = s.ne)) I2 I3 := k4.mono (fun u z => by
      rcases z with (z | z | z) | z
      · rw [z]; exact Or.inr (Or.inl ⟨rfl, rfl⟩)
      · rw [z]; exact Or.inr (Or.inl ⟨rfl, rfl⟩)
      · rw [z]; exact Or.inr (Or.inl ⟨rfl, rfl⟩)
      · exact Or.inl z)
    have h3 := h2.deskN k3 f3
    have b5 : PbR tg2 K2 P2 I3 s.np q (newPb s lim.toNat chk) := by
      obtain ⟨z1, z2, z3, z4, z5, z6⟩ := b4
      refine ⟨z1, ?_, k2, z4.fr (k4.at z1.2.1 (by simp)), fun j hj => absurd hj (Nat.not_lt_zero _), fun k hk => ?_⟩
      · rw [k4.at z1.1 (by simp)]; exact z2
      · rw [k4.at z1.2.2.1 (by simp)]; exact z6 k hk
    obtain ⟨a1', a2', a3', a4', a5', a6'⟩ := h3
    refine mk_add (u := (9, 0, 3)) (w := (9, 0, 13)) a4'.2.1 (by show s.np < 66; omega) a4'.1.1 (by decide) a4'.1.2 (by decide) (by decide) b3 (by decide) g2.2.1 g2.2.2 (fun L4 tg4 K4 P4 I4 g4 l1 l2 l3 l4 l5 => ?_)
    have hb : Qb (fun z => z = ((9, 0, 3) : Nat × Nat × Nat) ∨ z = (9, 0, 13)) := fun u hu z => by
      rcases z with z | z
      · rw [z] at hu; revert hu; decide
      · rw [z] at hu; revert hu; decide
    have p0 : P4 x = P2 x := (g4.at g2.2.1 a1'.1 (show 0 < 20 by decide) (hb _ (by decide))).1
    have b6 := b5.gw g4 g2.2.1 g2.2.2 (fun k => by simp) (fun k => by simp)
    refine ⟨⟨rfl, fun _ => b6.2.1.1⟩, tg4, ⟨a1'.gw g4 g2.2.1 g2.2.2 hb, a2'.gw a1'.1 g4 g2.2.1 hb, a3'.gw a1'.1 g4 g2.2.1 hb, ?_, ?_, a6'.gw a1'.1 g4 g2.2.1 hb⟩, g4.2.1, g4.2.2, fun m s2 hm hs2 => ?_⟩
    · unfold HRp
      rw [p0]
      refine ⟨⟨g4.ta g2.2.1 a4'.1.1 (show 9 < 20 by decide), l4⟩, l1, fun i hi => ?_⟩
      have hi : i < s.np + 1 := hi
      show PbR tg4 K4 P4 I4 i (elt P4 (P2 x 3) i) (updf s.pb s.np (newPb s lim.toNat chk) i)
      unfold updf
      by_cases z : i = s.np
      · rw [if_pos z, z]
        have l3 : elt P4 (P2 x 3) s.np = q := l3
        rw [l3]; exact b6
      · rw [if_neg z]
        have l2 : elt P4 (P2 x 3) i = elt P2 (P2 x 3) i := l2 i (by show i < s.np; omega)
        rw [l2]
        exact (a4'.2.2 i (by show i < s.np; omega)).gw g4 g2.2.1 g2.2.2 (fun k => by simp) (fun k => by simp)
    · exact a5'.gw (np := s.np) a1'.1 g4 g2.2.1 g2.2.2 hb (by decide) (by decide) (fun i k => by simp) (fun e he => (hs.2.2.2.2.2.1 e he).2.1) (fun i hi => l2 i hi)
    · have m2 := hm.gw hs2 g2 hT (fun _ _ => id)
      have m3 := m2.h hs2 (k4.mono (fun u z => by
        show u.1 ≤ 10
        rcases z with (z | z | z) | z
        · rw [z]; exact (show 4 ≤ 10 by decide)
        · rw [z]; exact (show 4 ≤ 10 by decide)
        · rw [z]; exact (show 4 ≤ 10 by decide)
        · rw [z]; exact (show 1 ≤ 10 by decide)))
      exact m3.gw hs2 g4 g2.2.1 (fun u hu z => by
        rcases z with z | z
        · rw [z] at hu; revert hu; decide
        · rw [z] at hu; revert hu; decide)
  · have c3 : ¬ s.np < 6 := by omega
    rw [if_neg c3]
    exact KOut.same (by decide) h hT hK
end PM1
