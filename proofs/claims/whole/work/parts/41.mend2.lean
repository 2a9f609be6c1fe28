section MF1
variable {tg : Tg} {K : KT} {P : PT} {I : IT} {x m a b t i c p : Nat} {s : Hl} {ks : List Nat}
/-- the places of one program of the model -/
def wS (sl k j : Nat) : Prop := k = 1 ∧ j = sl ∨ (k = 2 ∨ k = 3) ∧ 16 * sl ≤ j ∧ j < 16 * sl + 16
theorem x_copies_l {sl sl2 : Nat} {g : Pg} (hT : XT tg P m) (hsl : sl < 67) (hsl2 : sl2 < 67) (hne : sl ≠ sl2) (hg : g.1 ≤ 16) : ∀ (d fuel k : Nat) (I : IT), d < fuel → k + d = g.1 → XPg P I m sl g → (∀ j, j < k → I (P m 2) (16 * sl2 + j) = g.2.1 j ∧ I (P m 3) (16 * sl2 + j) = g.2.2 j) → ∃ I', f_X8_copies_2 K P fuel I m sl sl2 (k : Int) = some I' ∧ XPg P I' m sl2 g ∧ FrW P m (wS sl2) I I' ∧ I' m = I m ∧ FrT tg (fun u => 11 ≤ u.1) I I' := by
  have hX := hT.xd
  intro d
  induction d with
  | zero =>
    intro fuel k I hf hk h h2
    obtain ⟨n, rfl⟩ : ∃ n, fuel = n + 1 := ⟨fuel - 1, by omega⟩
    have d12 := hX.2 2 1 (by decide) (by decide) (by decide)
    have d13 := hX.2 3 1 (by decide) (by decide) (by decide)
    unfold f_X8_copies_2 f_X8_copies_62
    rw [ck_t (by omega), Int.toNat_natCast, h.1, if_pos (by omega), ck_t (by omega), ck_t (by omega), bnd_e, Int.toNat_natCast]
    exact ⟨_, rfl, ⟨up_s _ _ _ _, fun j hj => by rw [up_b d12, up_b d13]; exact h2 j (by omega)⟩, FrW.u1 hX (by decide) (by unfold wS; omega), up_b (Ne.symm (hX.1 1 (by decide))), FrT.up (by rw [hT.2 1 (by decide)]; decide)⟩
  | succ d ih =>
    intro fuel k I hf hk h h2
    obtain ⟨n, rfl⟩ : ∃ n, fuel = n + 1 := ⟨fuel - 1, by omega⟩
    have d32 := hX.2 3 2 (by decide) (by decide) (by decide)
    have d23 := hX.2 2 3 (by decide) (by decide) (by decide)
    have ea : wr (wr (16 * (sl : Int)) + (k : Int)) = ((16 * sl + k : Nat) : Int) := by rw [wr_id (x := 16 * (sl : Int)) (by omega) (by omega), wr_id (by omega) (by omega)]; omega
    have eb : wr (wr (16 * (sl2 : Int)) + (k : Int)) = ((16 * sl2 + k : Nat) : Int) := by rw [wr_id (x := 16 * (sl2 : Int)) (by omega) (by omega), wr_id (by omega) (by omega)]; omega
    unfold f_X8_copies_2
    rw [ck_t (by omega), Int.toNat_natCast, h.1, if_neg (by omega), ea, eb, ck_t (by omega), ck_t (by omega), bnd_e, ck_t (by omega), ck_t (by omega), bnd_e, Int.toNat_natCast, Int.toNat_natCast, up_b d32, (h.2 k (by omega)).1, (h.2 k (by omega)).2, show wr ((k : Int) + 1) = ((k + 1 : Nat) : Int) by rw [wr_id (by omega) (by omega)]; rfl]
    have w : FrW P m (wS sl2) I (up (up I (P m 2) (16 * sl2 + k) (g.2.1 k)) (P m 3) (16 * sl2 + k) (g.2.2 k)) := (FrW.u1 hX (by decide) (by unfold wS; omega)).tr (FrW.u1 hX (by decide) (by unfold wS; omega))
    have em : up (up I (P m 2) (16 * sl2 + k) (g.2.1 k)) (P m 3) (16 * sl2 + k) (g.2.2 k) m = I m := by rw [up_b (Ne.symm (hX.1 3 (by decide))), up_b (Ne.symm (hX.1 2 (by decide)))]
    obtain ⟨I', k1, k2, k3, k4, k5⟩ := ih n (k + 1) _ (by omega) (by omega) (h.fw hg w (by unfold wS; omega) (fun j _ => by unfold wS; omega)) (fun j hj => by
      rw [up_b d23, up_apply, up_apply]
      by_cases z : j = k
      · subst z
        rw [if_pos ⟨rfl, rfl⟩, if_pos ⟨rfl, rfl⟩]; exact ⟨rfl, rfl⟩
      · rw [if_neg (fun y => z (by omega)), if_neg (fun y => z (by omega)), up_b d32]; exact h2 j (by omega))
    exact ⟨I', k1, k2, w.tr k3, k4.trans em, ((FrT.up (by rw [hT.2 2 (by decide)]; decide)).tr (FrT.up (by rw [hT.2 3 (by decide)]; decide))).tr k5⟩
theorem x_copies {sl sl2 : Nat} {g : Pg} (hT : XT tg P m) (hsl : sl < 67) (hsl2 : sl2 < 67) (hne : sl ≠ sl2) (hg : g.1 ≤ 16) (h : XPg P I m sl g) : ∃ I', f_X8_copies K P I m sl sl2 = some I' ∧ XPg P I' m sl2 g ∧ FrW P m (wS sl2) I I' ∧ I' m = I m ∧ FrT tg (fun u => 11 ≤ u.1) I I' :=
  x_copies_l hT hsl hsl2 hne hg g.1 FU 0 I (by unfold FU; omega) (by omega) h (fun j hj => absurd hj (Nat.not_lt_zero _))
/-- the model: checker and version -/
theorem x_cv {cc : Int} (h : MH tg P I m s) (hs : s.ok) (hp : p < s.np) : ∃ I', f_X8_mend_127 K P I m p cc = some ((cvS s p cc).2.1, I') ∧ I' m = I m ∧ MH tg P I' m (cvS s p cc).2.2 ∧ FrT tg (fun u => 11 ≤ u.1) I I' := by
  have hX := h.1.xd
  have hnp := hs.2.2.1
  have hb := hs.2.2.2.1 p hp
  obtain ⟨⟨g1, g2, g3, g4⟩, g5, g6, g7⟩ := h.2.2.2.1 p hp
  have d98 := hX.2 9 8 (by decide) (by decide) (by decide)
  have d89 := hX.2 8 9 (by decide) (by decide) (by decide)
  unfold f_X8_mend_127 cvS
  rw [ck_t (by omega), bnd_e, ck_t (by omega), ck_t (by omega), bnd_e, ck_t (by omega), Int.toNat_natCast, up_b d98, g3, up_s]
  have w : FrW P m (fun k j => (k = 8 ∨ k = 9) ∧ j = p) I (up (up I (P m 8) p cc) (P m 9) p (wr ((s.pb p).ver + 1))) := (FrW.u1 hX (by decide) ⟨Or.inl rfl, rfl⟩).tr (FrW.u1 hX (by decide) ⟨Or.inr rfl, rfl⟩)
  have em : up (up I (P m 8) p cc) (P m 9) p (wr ((s.pb p).ver + 1)) m = I m := by rw [up_b (Ne.symm (hX.1 9 (by decide))), up_b (Ne.symm (hX.1 8 (by decide)))]
  refine ⟨_, rfl, em, h.p1 hs hp ?_ (w.mono (fun k j (q : (k = 8 ∨ k = 9) ∧ j = p) => by unfold wP; omega)) (fun j _ => by rw [em]), (FrT.up (by rw [h.1.2 8 (by decide)]; decide)).tr (FrT.up (by rw [h.1.2 9 (by decide)]; decide))⟩
  refine ⟨⟨?_, ?_, up_s _ _ _ _, ?_⟩, g5.fw hb.2.2.1.1 w (by omega) (fun j _ => by omega), fun j hj => ⟨(g6 j hj).1.fw (hb.2.2.2.2.1 j hj).1.1 w (by omega) (fun j _ => by omega), ?_⟩, fun k hk => ?_⟩
  · rw [w 7 p (by decide) (by omega)]; exact g1
  · rw [up_b d89, up_s]; rfl
  · rw [w 10 p (by decide) (by omega)]; exact g4
  · rw [w 11 _ (by decide) (by omega)]; exact (g6 j hj).2
  · rw [w 12 _ (by decide) (by omega)]; exact g7 k hk
theorem x_men_l {cc : Int} (hs : s.ok) (hp : p < s.np) (hd : s.desk.n ≠ 0) : ∀ (d fuel k : Nat) (I : IT) (x3 : Int), d < fuel → k + d = (s.pb p).nt → MH tg P I m s → (x3 = 0 ∨ x3 = 1) → ∃ I', f_X8_mend_42 K P fuel I m p cc x3 (k : Int) = f_X8_mend_83 K P I' m p cc (if x3 = 1 ∧ ansAll (s.pb p) s.desk k then 1 else 0) ∧ MH tg P I' m s ∧ I' m 38 = I m 38 ∧ FrY tg m I I' := by
  have hnp := hs.2.2.1
  have hb := hs.2.2.2.1 p hp
  have hnt := hb.2.2.2.1
  intro d
  induction d with
  | zero =>
    intro fuel k I x3 hf hk h hx
    obtain ⟨n, rfl⟩ : ∃ n, fuel = n + 1 := ⟨fuel - 1, by omega⟩
    unfold f_X8_mend_42
    rw [ck_t (by omega), Int.toNat_natCast, (h.2.2.2.1 p hp).1.2.2.2, if_pos (by omega)]
    have e : (if x3 = 1 ∧ ansAll (s.pb p) s.desk k then (1 : Int) else 0) = x3 := by
      rcases hx with q | q
      · rw [if_neg (fun z => by have := z.1; omega), q]
      · rw [if_pos ⟨q, fun j g1 g2 => by omega⟩, q]
    rw [e]
    exact ⟨I, rfl, h, rfl, FrY.rf⟩
  | succ d ih =>
    intro fuel k I x3 hf hk h hx
    obtain ⟨n, rfl⟩ : ∃ n, fuel = n + 1 := ⟨fuel - 1, by omega⟩
    have hd2 : I (P m 1) 0 = (s.desk.n : Int) := h.2.2.1.1.1
    have ew : wr (wr (12 * (p : Int)) + (k : Int)) = ((12 * p + k : Nat) : Int) := by rw [wr_id (x := 12 * (p : Int)) (by omega) (by omega), wr_id (by omega) (by omega)]; omega
    obtain ⟨I1, u1, -, u3, u4, u5⟩ := x_answers (K := K) (sl := 0) (inp := 12 * p + k) h hs hs.1 (hb.2.2.2.2.1 k (by omega)).1 (by decide) (by omega) h.2.2.1.1 ((h.2.2.2.1 p hp).2.2.1 k (by omega)).1
    have u1' : f_X8_answers K P I m 0 ((12 * p + k : Nat) : Int) = _ := u1
    unfold f_X8_mend_42
    rw [ck_t (by omega), Int.toNat_natCast, (h.2.2.2.1 p hp).1.2.2.2, if_neg (by omega), t0n, hd2, if_neg (by omega), ew, u1', bi_s, show wr ((k : Int) + 1) = ((k + 1 : Nat) : Int) by rw [wr_id (by omega) (by omega)]; rfl]
    have key : ∀ y : Int, (y = 0 ∨ y = 1) → (y = 1 ↔ x3 = 1 ∧ (runA s.desk ((s.pb p).tr k).1 500).e = 0) → ∃ I', f_X8_mend_42 K P n I1 m p cc y ((k + 1 : Nat) : Int) = f_X8_mend_83 K P I' m p cc (if x3 = 1 ∧ ansAll (s.pb p) s.desk k then 1 else 0) ∧ MH tg P I' m s ∧ I' m 38 = I m 38 ∧ FrY tg m I I' := by
      intro y hy hy2
      obtain ⟨I', k1, k2, k3, k4⟩ := ih n (k + 1) I1 y (by omega) (by omega) u3 hy
      refine ⟨I', ?_, k2, k3.trans u4, u5.tr k4⟩
      rw [k1]
      congr 1
      by_cases z : y = 1 ∧ ansAll (s.pb p) s.desk (k + 1)
      · have z1 := hy2.mp z.1
        rw [if_pos z, if_pos ⟨z1.1, fun j g1 g2 => by
          by_cases e : j = k
          · rw [e]; exact z1.2
          · exact z.2 j g1 (by omega)⟩]
      · rw [if_neg z, if_neg (fun y2 : x3 = 1 ∧ ansAll (s.pb p) s.desk k => z ⟨hy2.mpr ⟨y2.1, y2.2 k (by omega) (Nat.le_refl _)⟩, fun j g1 g2 => y2.2 j g1 (by omega)⟩)]
    by_cases c : (runA s.desk ((s.pb p).tr k).1 500).e = 0
    · rw [if_pos c]
      rcases hx with q | q
      · rw [q] at key ⊢
        exact key (ban 0 1) (Or.inl (by decide)) ⟨fun z => absurd z (by decide), fun z => absurd z.1 (by decide)⟩
      · rw [q] at key ⊢
        exact key (ban 1 1) (Or.inr (by decide)) ⟨fun _ => ⟨rfl, c⟩, fun _ => by decide⟩
    · rw [if_neg c]
      rcases hx with q | q
      · rw [q] at key ⊢
        exact key (ban 0 0) (Or.inl (by decide)) ⟨fun z => absurd z (by decide), fun z => absurd z.2 c⟩
      · rw [q] at key ⊢
        exact key (ban 1 0) (Or.inl (by decide)) ⟨fun z => absurd z (by decide), fun z => absurd z.2 c⟩
/-- the model takes the desk's program as the solution -/
theorem x_newSol (h : MH tg P I m s) (hs : s.ok) (hp : p < s.np) (ha : ansAll (s.pb p) s.desk 0) : ∃ I1 I', f_X8_copies K P I m 0 (wr (1 + (p : Int))) = some I1 ∧ f_X8_empties K P I1 m 0 = some I' ∧ I' m = I m ∧ MH tg P I' m (newSol s p) ∧ FrT tg (fun u => 11 ≤ u.1) I I' := by
  have hX := h.1.xd
  have hnp := hs.2.2.1
  have hb := hs.2.2.2.1 p hp
  have hb1 : ((s.pb p).sSol s.desk).ok := by
    obtain ⟨h1, h2, h3, h4, h5, h6⟩ := hb
    exact ⟨h1, h2, hs.1, h4, fun j hj => ⟨(h5 j hj).1, (h5 j hj).2.1, ha j hj (Nat.zero_le _)⟩, h6⟩
  obtain ⟨⟨g1, g2, g3, g4⟩, g5, g6, g7⟩ := h.2.2.2.1 p hp
  rw [wr_id (by omega) (by omega), show 1 + (p : Int) = ((1 + p : Nat) : Int) by omega]
  obtain ⟨I1, u1, u2, u3, u4, u5⟩ := x_copies (K := K) (sl := 0) (sl2 := 1 + p) h.1 (by omega) (by omega) (by omega) hs.1.1 h.2.2.1.1
  unfold wS at u3
  have h1 : MH tg P I1 m (s.sP1 p ((s.pb p).sSol s.desk)) := by
    refine h.p1 hs hp ⟨⟨?_, ?_, ?_, ?_⟩, u2, fun j hj => ⟨(g6 j hj).1.fw (hb.2.2.2.2.1 j hj).1.1 u3 (by omega) (fun j _ => by omega), ?_⟩, fun k hk => ?_⟩ (u3.mono (fun k j q => by unfold wP; omega)) (fun j _ => by rw [u4])
    · rw [u3 7 p (by decide) (by omega)]; exact g1
    · rw [u3 8 p (by decide) (by omega)]; exact g2
    · rw [u3 9 p (by decide) (by omega)]; exact g3
    · rw [u3 10 p (by decide) (by omega)]; exact g4
    · rw [u3 11 _ (by decide) (by omega)]; exact (g6 j hj).2
    · rw [u3 12 _ (by decide) (by omega)]; exact g7 k hk
  have w : FrW P m wD I1 (up I1 (P m 1) 0 0) := FrW.u1 hX (by decide) (by unfold wD; omega)
  have em : up I1 (P m 1) 0 0 m = I1 m := up_b (Ne.symm (hX.1 1 (by decide)))
  refine ⟨I1, up I1 (P m 1) 0 0, u1, ?_, em.trans u4, h1.desk (Hl.p1_ok hs hb1) ⟨up_s _ _ _ _, fun j hj => absurd hj (Nat.not_lt_zero _)⟩ w (fun j _ => by rw [em]), u5.tr (FrT.up (by rw [h.1.2 1 (by decide)]; decide))⟩
  unfold f_X8_empties
  rw [ck_t (by omega), bnd_e, t0n]
theorem x_mend {v w : Int} (h : MH tg P I m s) (hs : s.ok) : MOut tg P m [3, 1, 2] I (f_X8_mend K P I m v w) (mendS s v w) := by
  have bad : ∀ v2 : Int, 0 < v2 → f_X8_mend_25 K P I m v w v2 m = some (0, up I m 38 v2) := fun v2 hv => by
    unfold f_X8_mend_25
    rw [bnd_e, up_s, if_neg (by omega)]
  have hnp := hs.2.2.1
  unfold f_X8_mend mendS
  rw [x_isP h hs, bp_s]
  by_cases c1 : 0 ≤ v ∧ v < (s.np : Int)
  · rw [if_pos c1, if_neg (by decide), if_pos c1, x_isC, bp_s]
    by_cases c2 : 0 ≤ w ∧ w ≤ 1
    · rw [if_pos c2, if_neg (by decide), if_pos c2]
      obtain ⟨h1, f1⟩ := h.thr hs (v := 0)
      have e38 : up I m 38 0 m 38 = 0 := up_s _ _ _ _
      unfold f_X8_mend_25
      rw [bnd_e]
      generalize up I m 38 0 = I1 at h1 f1 e38 ⊢
      rw [e38, if_pos (by decide)]
      have hb := hs.2.2.2.1 v.toNat (by omega)
      have hnt := hb.2.2.2.1
      have ev : ((v.toNat : Nat) : Int) = v := by omega
      have fin : ∀ (I2 : IT) (s' : Hl), MH tg P I2 m s' → s'.ok → s'.np = s.np → I2 m 38 = 0 → FrT tg (fun u => 11 ≤ u.1) I1 I2 → MOut tg P m [3, 1, 2] I (f_X8_mend_127 K P I2 m v w) (cvS s' v.toNat w) := fun I2 s' q1 q2 q3 q4 q5 => by
        obtain ⟨I', j1, j2, j3, j4⟩ := x_cv (K := K) (cc := w) (p := v.toNat) q1 q2 (by omega)
        rw [ev] at j1
        exact ⟨_, I', j1, fun _ => rfl, by rw [j2, q4]; rfl, j3, f1.tr (q5.tr j4)⟩
      by_cases c3 : s.desk.n = 0
      · rw [if_pos c3]
        have hd2 : I1 (P m 1) 0 = (s.desk.n : Int) := h1.2.2.1.1.1
        have e42 : f_X8_mend_42 K P FU I1 m v w 1 0 = f_X8_mend_83 K P I1 m v w 1 := by
          show f_X8_mend_42 K P (999 + 1) I1 m v w 1 0 = _
          unfold f_X8_mend_42
          rw [ck_t (by omega), (h1.2.2.2.1 v.toNat (by omega)).1.2.2.2]
          by_cases z : ((s.pb v.toNat).nt : Int) ≤ 0
          · rw [if_pos z]
          · rw [if_neg z, t0n, hd2, if_pos (by omega)]
        rw [e42]
        obtain ⟨h2, f2⟩ := h1.thr hs (v := 0)
        have g38 : up I1 m 38 0 m 38 = 0 := up_s _ _ _ _
        unfold f_X8_mend_83 f_X8_mend_93
        rw [if_neg (by decide), bnd_e]
        generalize up I1 m 38 0 = I2 at h2 f2 g38 ⊢
        rw [g38, if_pos (by decide), t0n, show I2 (P m 1) 0 = (s.desk.n : Int) from h2.2.2.1.1.1, if_pos (by omega)]
        exact fin I2 s h2 hs rfl g38 f2
      · rw [if_neg c3]
        obtain ⟨I2, u1, u2, u3, u4⟩ := x_men_l (K := K) (cc := w) (p := v.toNat) hs (by omega) c3 (s.pb v.toNat).nt FU 0 I1 1 (by unfold FU; omega) (by omega) h1 (Or.inr rfl)
        rw [ev] at u1
        rw [show f_X8_mend_42 K P FU I1 m v w 1 0 = _ from u1]
        unfold f_X8_mend_83
        by_cases c4 : ansAll (s.pb v.toNat) s.desk 0
        · rw [if_pos (show (1 : Int) = 1 ∧ ansAll (s.pb v.toNat) s.desk 0 from ⟨rfl, c4⟩), if_neg (by decide), if_pos c4]
          obtain ⟨h2, f2⟩ := u2.thr hs (v := 0)
          have g38 : up I2 m 38 0 m 38 = 0 := up_s _ _ _ _
          unfold f_X8_mend_93
          rw [bnd_e]
          generalize up I2 m 38 0 = I3 at h2 f2 g38 ⊢
          rw [g38, if_pos (by decide), t0n, show I3 (P m 1) 0 = (s.desk.n : Int) from h2.2.2.1.1.1, if_neg (by omega)]
          obtain ⟨I4, I5, k1, k2, k3, k4, k5⟩ := x_newSol (K := K) h2 hs (p := v.toNat) (by omega) c4
          rw [ev] at k1
          rw [k1, bp_s, k2, bp_s]
          exact fin I5 _ k4 (newSol_ok hs (by omega) c4) rfl (by rw [k3]; exact g38) ((u4.t h1.1).tr (f2.tr k5))
        · rw [if_neg (show ¬ ((1 : Int) = 1 ∧ ansAll (s.pb v.toNat) s.desk 0) from fun z => c4 z.2), if_pos rfl, if_neg c4]
          obtain ⟨h2, f2⟩ := u2.thr hs (v := 3)
          have g38 : up I2 m 38 3 m 38 = 3 := up_s _ _ _ _
          unfold f_X8_mend_93
          rw [bnd_e, g38, if_neg (by decide)]
          exact ⟨0, _, rfl, fun z => absurd z (show ¬ 2 = 0 by decide), g38, h2, f1.tr ((u4.t h1.1).tr f2)⟩
    · rw [if_neg c2, if_pos rfl, if_neg c2, bad 2 (by decide)]
      exact MOut.bad (by decide) rfl h hs rfl
  · rw [if_neg c1, if_pos rfl, if_neg c1, bad 1 (by decide)]
    exact MOut.bad (by decide) rfl h hs rfl
end MF1
