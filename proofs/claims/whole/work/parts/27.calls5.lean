section CL5
variable {tg : Tg} {K : KT} {P : PT} {I : IT} {x m a t i c : Nat} {s : Hl} {ks : List Nat}
/-- the places that are a problem's, an entry's -/
def wP (i k j : Nat) : Prop := (k = 7 ∨ k = 8 ∨ k = 9 ∨ k = 10) ∧ j = i ∨ k = 1 ∧ j = 1 + i ∨ (k = 2 ∨ k = 3) ∧ 16 * (1 + i) ≤ j ∧ j < 16 * (1 + i) + 16 ∨ (k = 4 ∨ k = 11) ∧ 12 * i ≤ j ∧ j < 12 * i + 12 ∨ k = 5 ∧ 48 * i ≤ j ∧ j < 48 * i + 48 ∨ k = 12 ∧ 4 * i ≤ j ∧ j < 4 * i + 4
def wE (e k j : Nat) : Prop := (14 ≤ k ∧ k ≤ 20) ∧ j = e ∨ k = 1 ∧ j = 7 + e ∨ (k = 2 ∨ k = 3) ∧ 16 * (7 + e) ≤ j ∧ j < 16 * (7 + e) + 16
theorem MH.p1 {I' : IT} {b : Pb} (h : MH tg P I m s) (hs : s.ok) (hi : i < s.np) (h1 : XPb P I' m i b) (hw : FrW P m (wP i) I I') (hf : ∀ j, j < 25 → I' m j = I m j) : MH tg P I' m (s.sP1 i b) := by
  obtain ⟨a1, a2, ⟨a3, a4⟩, a5, a6, a7, a8⟩ := h
  obtain ⟨s1, s2, s3, s4, s5, s6, -⟩ := hs
  unfold wP at hw
  refine ⟨a1, a2.fr hf, ⟨a3.fw s1.1 hw (by omega) (fun j _ => by omega), a4.fw s2.1 hw (by omega) (fun j _ => by omega)⟩, fun j hj => ?_, fun e he => (a6 e he).fw (s6 e he).2.2.2.1.1 hw (by omega) (fun j _ => by omega), a7.fw hw (fun k _ => by omega) (fun k _ => by omega), a8.fw (Nat.le_refl _) hw (fun j (_ : s.np ≤ j) _ => ⟨by omega, by omega, fun k _ => by omega⟩)⟩
  show XPb P I' m j (updf s.pb i b j)
  have hj : j < s.np := hj
  unfold updf
  by_cases q : j = i
  · rw [if_pos q, q]; exact h1
  · rw [if_neg q]
    exact (a5 j hj).fw (s4 j hj) hw (by omega) (fun k _ => by omega) (fun k _ => by omega) (fun k _ => by omega) (fun k _ => by omega)
theorem MH.e1 {I' : IT} {e : Nat} {n : En} (h : MH tg P I m s) (hs : s.ok) (he : e < s.ne) (h1 : XEn P I' m e n) (hw : FrW P m (wE e) I I') (hf : ∀ j, j < 25 → I' m j = I m j) : MH tg P I' m (s.sE1 e n) := by
  obtain ⟨a1, a2, ⟨a3, a4⟩, a5, a6, a7, a8⟩ := h
  obtain ⟨s1, s2, s3, s4, s5, s6, -⟩ := hs
  unfold wE at hw
  refine ⟨a1, a2.fr hf, ⟨a3.fw s1.1 hw (by omega) (fun j _ => by omega), a4.fw s2.1 hw (by omega) (fun j _ => by omega)⟩, fun j hj => ?_, fun j hj => ?_, a7.fw hw (fun k _ => by omega) (fun k _ => by omega), a8.fw (Nat.le_refl _) hw (fun j _ _ => ⟨by omega, by omega, fun k _ => by omega⟩)⟩
  · have hj : j < s.np := hj
    exact (a5 j hj).fw (s4 j hj) hw (by omega) (fun k _ => by omega) (fun k _ => by omega) (fun k _ => by omega) (fun k _ => by omega)
  · show XEn P I' m j (updf s.en e n j)
    have hj : j < s.ne := hj
    unfold updf
    by_cases q : j = e
    · rw [if_pos q, q]; exact h1
    · rw [if_neg q]
      exact (a6 j hj).fw (s6 j hj).2.2.2.1.1 hw (by omega) (fun k _ => by omega)
theorem MH.min0 {v : Int} (h : MH tg P I m s) (hs : s.ok) : MH tg P (up I m 0 v) m (s.sMin v) := by
  obtain ⟨a1, a2, ⟨a3, a4⟩, a5, a6, a7, a8⟩ := h
  obtain ⟨s1, s2, s3, s4, s5, s6, -⟩ := hs
  have hw : FrW P m (fun k _ => 28 ≤ k) I (up I m 0 v) := FrW.f a1.xd
  exact ⟨a1, ⟨up_s _ _ _ _, by rw [up_k _ _ _ _ (by decide)]; exact a2.2.1, by rw [up_k _ _ _ _ (by decide)]; exact a2.2.2.1, by rw [up_k _ _ _ _ (by decide)]; exact a2.2.2.2⟩, ⟨a3.fw s1.1 hw (by omega) (fun j _ => by omega), a4.fw s2.1 hw (by omega) (fun j _ => by omega)⟩, fun i hi => (a5 i hi).fw (s4 i hi) hw (by omega) (fun j _ => by omega) (fun j _ => by omega) (fun j _ => by omega) (fun j _ => by omega), fun e he => (a6 e he).fw (s6 e he).2.2.2.1.1 hw (by omega) (fun j _ => by omega), a7.fw hw (fun k _ => by omega) (fun k _ => by omega), a8.fw (Nat.le_refl _) hw (fun i _ _ => ⟨by omega, by omega, fun k _ => by omega⟩)⟩
theorem x_pass {v : Int} (h : MH tg P I m s) (hs : s.ok) : MOut tg P m [1, 2] I (f_X8_pass K P I m v) (passS s v) := by
  have hm := hs.2.2.2.2.2.2.1
  have bad : ∀ v2 : Int, 0 < v2 → ∃ I', f_X8_pass_33 K P I m v v2 m = some (0, I') ∧ I' m 38 = v2 ∧ MH tg P I' m s ∧ FrT tg (fun u => 11 ≤ u.1) I I' := fun v2 hv => by
    obtain ⟨h1, f1⟩ := h.thr hs (v := v2)
    have e38 : up I m 38 v2 m 38 = v2 := up_s _ _ _ _
    have e0 : up I m 38 v2 m 0 = s.min := h1.2.1.1
    unfold f_X8_pass_33 f_X8_pass_53
    rw [bnd_e]
    generalize up I m 38 v2 = I1 at h1 f1 e38 e0 ⊢
    rw [e38, if_neg (by omega), bnd_e, up_k _ _ _ _ (by decide), e38, if_neg (by omega), e0, Int.add_zero, wr_id (by omega) (by omega)]
    refine ⟨_, rfl, by rw [up_k _ _ _ _ (by decide)]; exact e38, ?_, f1.tr (FrT.up (by rw [h.1.1]; decide))⟩
    exact h1.min0 hs
  unfold f_X8_pass passS
  rw [x_isIn, bp_s]
  by_cases c1 : 1 ≤ v ∧ v ≤ 300
  · rw [if_pos c1, if_neg (by decide), if_pos c1, show I m 0 = s.min from h.2.1.1, wr_id (by omega) (by omega)]
    by_cases c2 : s.min + v ≤ 9999
    · rw [if_pos c2, if_pos c2]
      obtain ⟨h1, f1⟩ := h.thr hs (v := 0)
      have e38 : up I m 38 0 m 38 = 0 := up_s _ _ _ _
      have e0 : up I m 38 0 m 0 = s.min := h1.2.1.1
      unfold f_X8_pass_33 f_X8_pass_53
      rw [bnd_e]
      generalize up I m 38 0 = I1 at h1 f1 e38 e0 ⊢
      rw [e38, if_pos rfl, bnd_e, up_k _ _ _ _ (by decide), e38, if_pos (by decide), e0, wr_id (by omega) (by omega), up_s]
      exact ⟨_, _, rfl, fun _ => rfl, by rw [up_k _ _ _ _ (by decide)]; exact e38, h1.min0 hs, f1.tr (FrT.up (by rw [h.1.1]; decide))⟩
    · rw [if_neg c2, if_neg c2]
      obtain ⟨I', k1, k2, k3, k4⟩ := bad 2 (by decide)
      exact ⟨0, I', k1, fun h0 => absurd h0 (show ¬ 2 = 0 by decide), k2, k3, k4⟩
  · rw [if_neg c1, if_pos rfl, if_neg c1]
    obtain ⟨I', k1, k2, k3, k4⟩ := bad 1 (by decide)
    exact ⟨0, I', k1, fun h0 => absurd h0 (show ¬ 1 = 0 by decide), k2, k3, k4⟩
theorem b01 {c : Prop} [Decidable c] : (if c then (1 : Int) else 0) = 0 ∨ (if c then (1 : Int) else 0) = 1 := by
  by_cases h : c
  · rw [if_pos h]; exact Or.inr rfl
  · rw [if_neg h]; exact Or.inl rfl
theorem x_isP {v : Int} (h : MH tg P I m s) (hs : s.ok) : f_X8_isProblem K P I m v = some (if 0 ≤ v ∧ v < (s.np : Int) then 1 else 0) := by
  have := hs.2.2.1
  unfold f_X8_isProblem
  rw [show I m 6 = (s.np : Int) from h.2.1.2.1, wr_id (by omega) (by omega), x_isIn, bp_s, ck_t b01]
  by_cases c : 0 ≤ v ∧ v < (s.np : Int)
  · rw [if_pos c, if_pos (by omega)]
  · rw [if_neg c, if_neg (by omega)]
theorem x_isE {v : Int} (h : MH tg P I m s) (hs : s.ok) : f_X8_isEntry K P I m v = some (if 0 ≤ v ∧ v < (s.ne : Int) then 1 else 0) := by
  have := hs.2.2.2.2.1
  unfold f_X8_isEntry
  rw [show I m 13 = (s.ne : Int) from h.2.1.2.2.1, wr_id (by omega) (by omega), x_isIn, bp_s, ck_t b01]
  by_cases c : 0 ≤ v ∧ v < (s.ne : Int)
  · rw [if_pos c, if_pos (by omega)]
  · rw [if_neg c, if_neg (by omega)]
theorem x_isG {v : Int} : f_X8_isGroup K P I v = some (if 0 ≤ v ∧ v < 4 then 1 else 0) := by
  unfold f_X8_isGroup
  rw [x_isIn, bp_s, ck_t b01]
  by_cases c : 0 ≤ v ∧ v < 4
  · rw [if_pos c, if_pos (by omega)]
  · rw [if_neg c, if_neg (by omega)]
theorem x_isT {v : Int} : f_X8_isTeam K P I v = some (if 0 ≤ v ∧ v < 8 then 1 else 0) := by
  unfold f_X8_isTeam
  rw [x_isIn, bp_s, ck_t b01]
  by_cases c : 0 ≤ v ∧ v < 8
  · rw [if_pos c, if_pos (by omega)]
  · rw [if_neg c, if_neg (by omega)]
theorem x_isC {v : Int} : f_X8_isChecker K P I v = some (if 0 ≤ v ∧ v ≤ 1 then 1 else 0) := by
  unfold f_X8_isChecker
  rw [x_isIn, bp_s, ck_t b01]
theorem x_points {p g v : Int} (h : MH tg P I m s) (hs : s.ok) : MOut tg P m [3, 1] I (f_X8_points K P I m p g v) (pointsS s p g v) := by
  have hX := h.1.xd
  have bad : ∀ v2 : Int, 0 < v2 → f_X8_points_35 K P I m p g v v2 m = some (0, up I m 38 v2) := fun v2 hv => by
    unfold f_X8_points_35
    rw [bnd_e, up_s, if_neg (by omega)]
  unfold f_X8_points f_X8_points_16 pointsS
  rw [x_isP h hs, bp_s]
  by_cases c1 : 0 ≤ p ∧ p < (s.np : Int)
  · rw [if_pos c1, if_neg (by decide), if_pos c1, x_isG, bp_s]
    by_cases c2 : 0 ≤ g ∧ g < 4
    · rw [if_pos c2, if_neg (by decide), if_pos c2, x_isIn, bp_s]
      by_cases c3 : 0 ≤ v ∧ v ≤ 100
      · rw [if_pos c3, if_neg (by decide), if_pos c3]
        obtain ⟨h1, f1⟩ := h.thr hs (v := 0)
        have e38 : up I m 38 0 m 38 = 0 := up_s _ _ _ _
        unfold f_X8_points_35
        rw [bnd_e]
        generalize up I m 38 0 = I1 at h1 f1 e38 ⊢
        have hnp := hs.2.2.1
        have en : (4 * p + g).toNat = 4 * p.toNat + g.toNat := by omega
        have hp := h1.2.2.2.1 p.toNat (by omega)
        rw [e38, if_pos (by decide), wr_id (x := 4 * p) (by omega) (by omega), wr_id (by omega) (by omega), ck_t (by omega), ck_t (by omega), bnd_e, en, hp.2.2.2 g.toNat (by omega)]
        have hw : FrW P m (wP p.toNat) I1 (up I1 (P m 12) (4 * p.toNat + g.toNat) v) := FrW.u1 hX (by decide) (by unfold wP; omega)
        have hw2 : FrW P m (fun k _ => k = 12) I1 (up I1 (P m 12) (4 * p.toNat + g.toNat) v) := FrW.u1 hX (by decide) rfl
        refine ⟨_, _, rfl, fun _ => rfl, by rw [up_b (Ne.symm (hX.1 12 (by decide)))]; exact e38, h1.p1 hs (by omega) ?_ hw (fun j _ => by rw [up_b (Ne.symm (hX.1 12 (by decide)))]), f1.tr (FrT.up (by rw [h.1.2 12 (by decide)]; decide))⟩
        obtain ⟨⟨g1, g2, g3, g4⟩, g5, g6, g7⟩ := hp
        have hb := hs.2.2.2.1 p.toNat (by omega)
        refine ⟨⟨?_, ?_, ?_, ?_⟩, g5.fw hb.2.2.1.1 hw2 (by omega) (fun j _ => by omega), fun j hj => ⟨(g6 j hj).1.fw (hb.2.2.2.2.1 j hj).1.1 hw2 (by omega) (fun k _ => by omega), ?_⟩, fun k hk => ?_⟩
        · rw [hw2 7 _ (by decide) (show ¬ 7 = 12 by decide)]; exact g1
        · rw [hw2 8 _ (by decide) (show ¬ 8 = 12 by decide)]; exact g2
        · rw [hw2 9 _ (by decide) (show ¬ 9 = 12 by decide)]; exact g3
        · rw [hw2 10 _ (by decide) (show ¬ 10 = 12 by decide)]; exact g4
        · rw [hw2 11 _ (by decide) (show ¬ 11 = 12 by decide)]; exact (g6 j hj).2
        · rw [up_apply]
          show _ = updf (s.pb p.toNat).pts g.toNat v k
          unfold updf
          by_cases q : k = g.toNat
          · rw [if_pos ⟨rfl, by omega⟩, if_pos q]
          · rw [if_neg (fun e => q (by omega)), if_neg q]; exact g7 k hk
      · rw [if_neg c3, if_pos rfl, if_neg c3, bad 2 (by decide)]
        exact MOut.bad (by decide) rfl h hs rfl
    · rw [if_neg c2, if_pos rfl, if_neg c2, bad 1 (by decide)]
      exact MOut.bad (by decide) rfl h hs rfl
  · rw [if_neg c1, if_pos rfl, if_neg c1, bad 1 (by decide)]
    exact MOut.bad (by decide) rfl h hs rfl
theorem x_entry {e w : Int} (h : MH tg P I m s) (hs : s.ok) : MOut tg P m [3, 1] I (f_X8_entry K P I m e w) (entryS s e w) := by
  have bad : ∀ v2 : Int, 0 < v2 → f_X8_entry_28 K P I m e w v2 m = some (0, up I m 38 v2) := fun v2 hv => by
    unfold f_X8_entry_28
    rw [bnd_e, up_s, if_neg (by omega)]
  unfold f_X8_entry entryS
  rw [x_isE h hs, bp_s]
  by_cases c1 : 0 ≤ e ∧ e < (s.ne : Int)
  · rw [if_pos c1, if_neg (by decide), if_pos c1, x_isIn, bp_s]
    by_cases c2 : 0 ≤ w ∧ w ≤ 6
    · rw [if_pos c2, if_neg (by decide), if_pos c2]
      obtain ⟨h1, f1⟩ := h.thr hs (v := 0)
      have e38 : up I m 38 0 m 38 = 0 := up_s _ _ _ _
      unfold f_X8_entry_28
      rw [bnd_e]
      generalize up I m 38 0 = I1 at h1 f1 e38 ⊢
      have hne := hs.2.2.2.2.1
      obtain ⟨⟨k0, k1, k2, k3⟩, -, k6⟩ := h1.2.2.2.2.1 e.toNat (by omega)
      have hok := (hs.2.2.2.2.2.1 e.toNat (by omega)).2.2.2.2.2
      have he60 : 0 ≤ e ∧ e < 60 := by omega
      rw [e38, if_pos (by decide), ck_t he60, k3]
      refine ⟨entryV (s.en e.toNat) w, I1, ?_, fun _ => rfl, e38, h1, f1⟩
      have key : ∀ t0 : Int, (t0 = 0 ↔ (s.en e.toNat).vd ≠ -1) → f_X8_entry_55 K P I1 m e w t0 = some (entryV (s.en e.toNat) w, I1) := by
        intro t0 ht
        unfold f_X8_entry_55 entryV
        rw [ck_t he60, ck_t he60, ck_t he60, ck_t he60, ck_t he60, ck_t he60, ck_t he60, k0, k1, k2, k3]
        by_cases w0 : w = 0
        · rw [if_pos w0, if_pos w0]
        rw [if_neg w0, if_neg w0]
        by_cases w1 : w = 1
        · rw [if_pos w1, if_pos w1]
          by_cases q : t0 = 0
          · rw [if_pos q, (k6 (ht.mp q)).1]
          · rw [if_neg q, (hok (Classical.byContradiction fun z => q (ht.mpr z))).1]
        rw [if_neg w1, if_neg w1]
        by_cases w2 : w = 2
        · rw [if_pos w2, if_pos w2]
          by_cases q : t0 = 0
          · rw [if_pos q, (k6 (ht.mp q)).2.1]
          · rw [if_neg q, (hok (Classical.byContradiction fun z => q (ht.mpr z))).2.1]
        rw [if_neg w2, if_neg w2]
        by_cases w3 : w = 3
        · rw [if_pos w3, if_pos w3]
          by_cases q : t0 = 0
          · rw [if_pos q, (k6 (ht.mp q)).2.2]
          · rw [if_neg q, (hok (Classical.byContradiction fun z => q (ht.mpr z))).2.2]
        rw [if_neg w3, if_neg w3]
        by_cases w4 : w = 4
        · rw [if_pos w4, if_pos w4]
        rw [if_neg w4, if_neg w4]
        by_cases w5 : w = 5
        · rw [if_pos w5, if_pos w5]
        rw [if_neg w5, if_neg w5]
      by_cases q : (s.en e.toNat).vd = -1
      · rw [if_pos q]; exact key 1 ⟨fun z => absurd z (by decide), fun z => absurd q z⟩
      · rw [if_neg q]; exact key 0 ⟨fun _ => q, fun _ => rfl⟩
    · rw [if_neg c2, if_pos rfl, if_neg c2, bad 2 (by decide)]
      exact MOut.bad (by decide) rfl h hs rfl
  · rw [if_neg c1, if_pos rfl, if_neg c1, bad 1 (by decide)]
    exact MOut.bad (by decide) rfl h hs rfl
end CL5
