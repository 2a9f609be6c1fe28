section JU1
variable {tg : Tg} {K : KT} {P : PT} {I : IT} {x m a t i c e : Nat} {s : Hl} {ks : List Nat}
def wJ (e k j : Nat) : Prop := (17 ≤ k ∧ k ≤ 20) ∧ j = e ∨ k = 21 ∨ 28 ≤ k
theorem MH.ej {I' : IT} {n : En} {jud : Nat → Int} (h : MH tg P I m s) (hs : s.ok) (he : e < s.ne) (h1 : XEn P I' m e n) (h2 : ∀ k, k < 8 → I' (P m 21) k = jud k) (hw : FrW P m (wJ e) I I') (hf : ∀ j, j < 25 → I' m j = I m j) : MH tg P I' m ((s.sE1 e n).sJud jud) := by
  obtain ⟨a1, a2, ⟨a3, a4⟩, a5, a6, a7, a8⟩ := h
  obtain ⟨s1, s2, s3, s4, s5, s6, -⟩ := hs
  unfold wJ at hw
  refine ⟨a1, a2.fr hf, ⟨a3.fw s1.1 hw (by omega) (fun j _ => by omega), a4.fw s2.1 hw (by omega) (fun j _ => by omega)⟩, fun j hj => ?_, fun j hj => ?_, ⟨h2, fun k hk => ?_, fun k hk => ?_⟩, a8.fw (Nat.le_refl _) hw (fun j _ _ => ⟨by omega, by omega, fun k _ => by omega⟩)⟩
  · have hj : j < s.np := hj
    exact (a5 j hj).fw (s4 j hj) hw (by omega) (fun k _ => by omega) (fun k _ => by omega) (fun k _ => by omega) (fun k _ => by omega)
  · show XEn P I' m j (updf s.en e n j)
    have hj : j < s.ne := hj
    unfold updf
    by_cases q : j = e
    · rw [if_pos q, q]; exact h1
    · rw [if_neg q]
      exact (a6 j hj).fw (s6 j hj).2.2.2.1.1 hw (by omega) (fun k _ => by omega)
  · rw [hw 22 k (by decide) (by omega)]; exact a7.2.1 k hk
  · rw [hw 24 k (by decide) (by omega)]; exact a7.2.2 k hk
def midE (n : En) (fl sc : Int) : En := mkEn n.team n.prob n.whn n.prg n.vd (if n.vd = -1 then -1 else fl) (if n.vd = -1 then 0 else sc) n.jb
theorem midE_ok {n : En} {np : Nat} (h : n.ok np) {fl sc : Int} : (midE n fl sc).ok np := ⟨h.1, h.2.1, h.2.2.1, h.2.2.2.1, h.2.2.2.2.1, fun q => ⟨if_pos q, if_pos q, (h.2.2.2.2.2 q).2.2⟩⟩
theorem MH.mid {I' : IT} (h : MH tg P I m s) (hs : s.ok) (he : e < s.ne) (hw : FrW P m (fun k j => (k = 18 ∨ k = 19) ∧ j = e ∨ 28 ≤ k) I I') (hf : ∀ j, j < 25 → I' m j = I m j) : MH tg P I' m (s.sE1 e (midE (s.en e) (I' (P m 18) e) (I' (P m 19) e))) := by
  obtain ⟨⟨g1, g2, g3, g4⟩, g5, g6⟩ := h.2.2.2.2.1 e he
  have hn := hs.2.2.2.2.2.1 e he
  have q : XEn P I' m e (midE (s.en e) (I' (P m 18) e) (I' (P m 19) e)) := by
    refine ⟨⟨?_, ?_, ?_, ?_⟩, g5.fw hn.2.2.2.1.1 hw (by omega) (fun j _ => by omega), fun hv => ⟨?_, ?_, ?_⟩⟩
    · rw [hw 14 e (by decide) (by omega)]; exact g1
    · rw [hw 15 e (by decide) (by omega)]; exact g2
    · rw [hw 16 e (by decide) (by omega)]; exact g3
    · rw [hw 17 e (by decide) (by omega)]; exact g4
    · exact (if_neg hv).symm
    · exact (if_neg hv).symm
    · rw [hw 20 e (by decide) (by omega)]; exact (g6 hv).2.2
  exact h.ej hs he (jud := s.jud) q (fun k hk => by rw [hw 21 k (by decide) (by omega)]; exact h.2.2.2.2.2.1.1 k hk) (hw.mono (fun k j (z : (k = 18 ∨ k = 19) ∧ j = e ∨ 28 ≤ k) => by unfold wJ; omega)) hf
theorem sE1_en {n : En} : (s.sE1 e n).en e = n := by
  show updf s.en e n e = n
  unfold updf
  rw [if_pos rfl]
theorem x_ff2 {n : En} (h : MH tg P I m (s.sE1 e n)) (hs : (s.sE1 e n).ok) (he : e < s.ne) (hp : n.prob = (s.en e).prob) (hg : n.prg = (s.en e).prg) : ∃ I', f_X8_firstFailed K P I m e = some ((s.pb (s.en e).prob).ff (s.en e).prg (s.pb (s.en e).prob).nt, I') ∧ MH tg P I' m (s.sE1 e n) ∧ I' m 38 = I m 38 ∧ FrY tg m I I' := by
  have := x_firstFailed (K := K) h hs he
  rw [sE1_en, hp, hg] at this
  exact this
theorem x_tryE2 {n : En} {j : Nat} (h : MH tg P I m (s.sE1 e n)) (hs : (s.sE1 e n).ok) (he : e < s.ne) (hp : n.prob = (s.en e).prob) (hg : n.prg = (s.en e).prg) (hj : j < (s.pb (s.en e).prob).nt) : ∃ I', f_X8_does K P I m (s.en e).prob (wr (7 + (e : Int))) (wr (wr (12 * ((s.en e).prob : Int)) + (j : Int))) = some ((s.pb (s.en e).prob).tryE (s.en e).prg j, I') ∧ MH tg P I' m (s.sE1 e n) ∧ I' m 38 = I m 38 ∧ FrY tg m I I' := by
  have := x_tryE (K := K) (j := j) h hs he
  rw [sE1_en, hp, hg] at this
  exact this hj
theorem msk_rg {b : Pb} {g : Pg} : ∀ k, rg (b.msk g k).1 ∧ rg (b.msk g k).2
  | 0 => by
    show rg 0 ∧ rg 0
    exact ⟨⟨by decide, by decide⟩, ⟨by decide, by decide⟩⟩
  | k + 1 => by
    show rg (bor (b.msk g k).1 (bsl 1 (b.tr k).2)) ∧ rg (if b.tryE g k = 0 then (b.msk g k).2 else bor (b.msk g k).2 (bsl 1 (b.tr k).2))
    refine ⟨rg_bor _ _, ?_⟩
    by_cases c : b.tryE g k = 0
    · rw [if_pos c]; exact (msk_rg k).2
    · rw [if_neg c]; exact rg_bor _ _
/-- the model's masks -/
theorem x_jud_l (hs : s.ok) (he : e < s.ne) : ∀ (d fuel k : Nat) (I : IT), d < fuel → k + d = (s.pb (s.en e).prob).nt → MH tg P I m s → ∃ I', f_X8_judges_15 K P fuel I m e (s.en e).prob ((s.pb (s.en e).prob).msk (s.en e).prg k).2 ((s.pb (s.en e).prob).msk (s.en e).prg k).1 (k : Int) = f_X8_judges_83 K P I' m e (s.en e).prob ((s.pb (s.en e).prob).msk (s.en e).prg (s.pb (s.en e).prob).nt).2 ((s.pb (s.en e).prob).msk (s.en e).prg (s.pb (s.en e).prob).nt).1 ∧ MH tg P I' m s ∧ I' m 38 = I m 38 ∧ FrY tg m I I' := by
  have hn := hs.2.2.2.2.2.1 e he
  have hb := hs.2.2.2.1 _ hn.2.1
  have hnp := hs.2.2.1
  have hnt := hb.2.2.2.1
  have hp := hn.2.1
  intro d
  induction d with
  | zero =>
    intro fuel k I hf hk h
    obtain ⟨n, rfl⟩ : ∃ n, fuel = n + 1 := ⟨fuel - 1, by omega⟩
    have hk : k = (s.pb (s.en e).prob).nt := hk
    unfold f_X8_judges_15
    rw [ck_t (by omega), Int.toNat_natCast, (h.2.2.2.1 _ hp).1.2.2.2, if_pos (by omega), hk]
    exact ⟨I, rfl, h, rfl, FrY.rf⟩
  | succ d ih =>
    intro fuel k I hf hk h
    obtain ⟨n, rfl⟩ : ∃ n, fuel = n + 1 := ⟨fuel - 1, by omega⟩
    obtain ⟨I1, u1, u2, u3, u4⟩ := x_tryE (K := K) h hs he (j := k) (by omega)
    obtain ⟨I', k1, k2, k3, k4⟩ := ih n (k + 1) I1 (by omega) (by omega) u2
    refine ⟨I', ?_, k2, k3.trans u3, u4.tr k4⟩
    have ew : wr (wr (12 * ((s.en e).prob : Int)) + (k : Int)) = ((12 * (s.en e).prob + k : Nat) : Int) := by rw [wr_id (x := 12 * ((s.en e).prob : Int)) (by omega) (by omega), wr_id (by omega) (by omega)]; omega
    have eg : I (P m 11) (12 * (s.en e).prob + k) = ((s.pb (s.en e).prob).tr k).2 := ((h.2.2.2.1 _ hp).2.2.1 k (by omega)).2
    have em : (s.pb (s.en e).prob).msk (s.en e).prg (k + 1) = (bor ((s.pb (s.en e).prob).msk (s.en e).prg k).1 (bsl 1 ((s.pb (s.en e).prob).tr k).2), if (s.pb (s.en e).prob).tryE (s.en e).prg k = 0 then ((s.pb (s.en e).prob).msk (s.en e).prg k).2 else bor ((s.pb (s.en e).prob).msk (s.en e).prg k).2 (bsl 1 ((s.pb (s.en e).prob).tr k).2)) := rfl
    unfold f_X8_judges_15 f_X8_judges_75
    rw [ck_t (by omega), Int.toNat_natCast, (h.2.2.2.1 _ hp).1.2.2.2, if_neg (by omega), u1, bi_s, ew, ck_t (by omega), Int.toNat_natCast, eg, show wr ((k : Int) + 1) = ((k + 1 : Nat) : Int) by rw [wr_id (by omega) (by omega)]; rfl]
    by_cases c : (s.pb (s.en e).prob).tryE (s.en e).prg k = 0
    · rw [if_pos c, bor0 (msk_rg k).2]
      rw [em, if_pos c] at k1
      exact k1
    · rw [if_neg c]
      rw [em, if_neg c] at k1
      exact k1
/-- the model's score -/
theorem x_sc_l {p : Nat} {x3 x4 : Int} {pts : Nat → Int} (he : e < 60) (hp6 : p < 6) (hX : XD P m) (hp : ∀ k, k < 4 → 0 ≤ pts k ∧ pts k ≤ 100) : ∀ (d fuel k : Nat) (I : IT), d < fuel → k + d = 4 → I (P m 19) e = ptsS pts (ban x4 (bxo x3 (-1))) k → (∀ k, k < 4 → I (P m 12) (4 * p + k) = pts k) → ∃ I', f_X8_judges_93 K P fuel I m e p x3 x4 (k : Int) = f_X8_judges_144 K P I' m e p ∧ I' (P m 19) e = ptsS pts (ban x4 (bxo x3 (-1))) 4 ∧ (∀ j, j ≠ e → I' (P m 19) j = I (P m 19) j) ∧ ∀ b, b ≠ P m 19 → I' b = I b := by
  intro d
  induction d with
  | zero =>
    intro fuel k I hf hk h1 h2
    obtain ⟨n, rfl⟩ : ∃ n, fuel = n + 1 := ⟨fuel - 1, by omega⟩
    obtain rfl : k = 4 := by omega
    unfold f_X8_judges_93
    rw [if_pos (by decide)]
    exact ⟨I, rfl, h1, fun _ _ => rfl, fun _ _ => rfl⟩
  | succ d ih =>
    intro fuel k I hf hk h1 h2
    obtain ⟨n, rfl⟩ : ∃ n, fuel = n + 1 := ⟨fuel - 1, by omega⟩
    have d12 := hX.2 12 19 (by decide) (by decide) (by decide)
    have r1 := pts_rg (z := ban x4 (bxo x3 (-1))) hp k (by omega)
    have r2 := hp k (by omega)
    have e1 : ptsS pts (ban x4 (bxo x3 (-1))) (k + 1) = ptsS pts (ban x4 (bxo x3 (-1))) k + (if ban (bsr (ban x4 (bxo x3 (-1))) (k : Int)) 1 = 0 then 0 else pts k) := rfl
    have key : ∀ v : Int, (0 ≤ v ∧ v ≤ 100) → ptsS pts (ban x4 (bxo x3 (-1))) (k + 1) = ptsS pts (ban x4 (bxo x3 (-1))) k + v → ∃ I', f_X8_judges_136 K P (f_X8_judges_93 K P n) I m e p x3 x4 k v (I (P m 19) e) e (P m 19) = f_X8_judges_144 K P I' m e p ∧ I' (P m 19) e = ptsS pts (ban x4 (bxo x3 (-1))) 4 ∧ (∀ j, j ≠ e → I' (P m 19) j = I (P m 19) j) ∧ ∀ b, b ≠ P m 19 → I' b = I b := by
      intro v hv hv2
      unfold f_X8_judges_136
      rw [ck_t (by omega), bnd_e, Int.toNat_natCast, show wr ((k : Int) + 1) = ((k + 1 : Nat) : Int) by rw [wr_id (by omega) (by omega)]; rfl, h1, wr_id (by omega) (by omega)]
      obtain ⟨I', u1, u2, u3, u4⟩ := ih n (k + 1) (up I (P m 19) e (ptsS pts (ban x4 (bxo x3 (-1))) k + v)) (by omega) (by omega) (by rw [up_s, hv2]) (fun j hj => by rw [up_b d12]; exact h2 j hj)
      exact ⟨I', u1, u2, fun j hj => by rw [u3 j hj, up_k _ _ _ _ hj], fun b hb => by rw [u4 b hb, up_b hb]⟩
    unfold f_X8_judges_93
    have ew : wr (wr (4 * (p : Int)) + (k : Int)) = ((4 * p + k : Nat) : Int) := by rw [wr_id (x := 4 * (p : Int)) (by omega) (by omega), wr_id (by omega) (by omega)]; omega
    rw [if_neg (by omega), ck_t (by omega), ew, Int.toNat_natCast, Int.toNat_natCast, h2 k (by omega)]
    rcases ban1 (bsr (ban x4 (bxo x3 (-1))) (k : Int)) with c | c
    · rw [if_neg (by omega)]
      exact key 0 ⟨by decide, by decide⟩ (by rw [e1, if_pos c])
    · rw [if_pos c, ck_t (by omega)]
      exact key (pts k) r2 (by rw [e1, if_neg (by omega)])
/-- the model judges an entry -/
theorem x_judges (h : MH tg P I m s) (hs : s.ok) (he : e < s.ne) : ∃ I', f_X8_judges K P I m e = some I' ∧ MH tg P I' m (judE s e) ∧ I' m 38 = I m 38 ∧ FrT tg (fun u => 11 ≤ u.1) I I' := by
  have hX := h.1.xd
  have hne := hs.2.2.2.2.1
  have hnp := hs.2.2.1
  have hn := hs.2.2.2.2.2.1 e he
  have hp := hn.2.1
  have hb := hs.2.2.2.1 _ hp
  have hnt := hb.2.2.2.1
  have hff := ff_rg (b := s.pb (s.en e).prob) (g := (s.en e).prg) (s.pb (s.en e).prob).nt
  obtain ⟨I1, u1, u2, u3, u4⟩ := x_jud_l (K := K) hs he (s.pb (s.en e).prob).nt FU 0 I (by unfold FU; omega) (by omega) h
  have dm : ∀ k, tt 9 k ≠ 0 → m ≠ P m k := fun k hk => Ne.symm (hX.1 k hk)
  have t11 : ∀ k, tt 9 k ≠ 0 → 11 ≤ (tg (P m k)).1 := fun k hk => by rw [h.1.2 k hk]; exact (show 11 ≤ 12 by decide)
  -- the score
  have f4 : FrW P m (fun k j => (k = 18 ∨ k = 19) ∧ j = e ∨ 28 ≤ k) I1 (up I1 (P m 19) e 0) := FrW.u1 hX (by decide) (Or.inl ⟨Or.inr rfl, rfl⟩)
  obtain ⟨I2, v1, v2, v3, v4⟩ := x_sc_l (K := K) (P := P) (m := m) (e := e) (p := (s.en e).prob) (x3 := ((s.pb (s.en e).prob).msk (s.en e).prg (s.pb (s.en e).prob).nt).2) (x4 := ((s.pb (s.en e).prob).msk (s.en e).prg (s.pb (s.en e).prob).nt).1) (by omega) (by omega) hX hb.2.2.2.2.2 4 FU 0 (up I1 (P m 19) e 0) (by decide) (by decide) (by rw [up_s]; rfl) (fun k hk => by rw [up_b (hX.2 12 19 (by decide) (by decide) (by decide))]; exact (u2.2.2.2.1 _ hp).2.2.2 k hk)
  have w2 : FrW P m (fun k j => (k = 18 ∨ k = 19) ∧ j = e ∨ 28 ≤ k) I1 I2 := f4.tr (fun k j hk hq => by
    by_cases c : k = 19
    · subst c; exact v3 j (fun z => hq (Or.inl ⟨Or.inr rfl, z⟩))
    · rw [v4 _ (hX.2 k 19 hk (by decide) c)])
  have m2 : I2 m = I1 m := by rw [v4 m (dm 19 (by decide)), up_b (dm 19 (by decide))]
  have t2 : FrT tg (fun u => 11 ≤ u.1) I1 I2 := fun b hb => by
    have hb2 : b ≠ P m 19 := fun z => hb (by rw [z]; exact t11 19 (by decide))
    rw [v4 b hb2, up_b hb2]
  have M2 := u2.mid hs he w2 (fun j _ => by rw [m2])
  -- the first failed
  obtain ⟨I3, a1, a2, a3, a4⟩ := x_ff2 (K := K) M2 (Hl.e1_ok hs (midE_ok hn)) he rfl rfl
  have w3 : FrW P m (fun k j => (k = 18 ∨ k = 19) ∧ j = e ∨ 28 ≤ k) I1 I3 := w2.tr ((a4.w h.1).mono (fun k j z => Or.inr z))
  have w4 : FrW P m (fun k j => (k = 18 ∨ k = 19) ∧ j = e ∨ 28 ≤ k) I1 (up I3 (P m 18) e ((s.pb (s.en e).prob).ff (s.en e).prg (s.pb (s.en e).prob).nt)) := w3.tr (FrW.u1 hX (by decide) (Or.inl ⟨Or.inl rfl, rfl⟩))
  have e18 : up I3 (P m 18) e ((s.pb (s.en e).prob).ff (s.en e).prg (s.pb (s.en e).prob).nt) (P m 18) e = (s.pb (s.en e).prob).ff (s.en e).prg (s.pb (s.en e).prob).nt := up_s _ _ _ _
  have e19 : up I3 (P m 18) e ((s.pb (s.en e).prob).ff (s.en e).prg (s.pb (s.en e).prob).nt) (P m 19) e = ptsS (s.pb (s.en e).prob).pts ((s.pb (s.en e).prob).grp (s.en e).prg) 4 := by rw [up_b (hX.2 19 18 (by decide) (by decide) (by decide)), a4.w h.1 19 e (by decide) (by omega)]; exact v2
  have m4 : ∀ j, j < 25 → up I3 (P m 18) e ((s.pb (s.en e).prob).ff (s.en e).prg (s.pb (s.en e).prob).nt) m j = I1 m j := fun j hj => by rw [up_b (dm 18 (by decide)), a4.2 j hj, m2]
  have r4 : up I3 (P m 18) e ((s.pb (s.en e).prob).ff (s.en e).prg (s.pb (s.en e).prob).nt) m 38 = I1 m 38 := by rw [up_b (dm 18 (by decide)), a3, m2]
  have t4 : FrT tg (fun u => 11 ≤ u.1) I1 (up I3 (P m 18) e ((s.pb (s.en e).prob).ff (s.en e).prg (s.pb (s.en e).prob).nt)) := t2.tr ((a4.t h.1).tr (FrT.up (t11 18 (by decide))))
  have fin : ∀ I5, FrW P m (fun k j => (k = 18 ∨ k = 19) ∧ j = e ∨ 28 ≤ k) I1 I5 → I5 (P m 18) e = (s.pb (s.en e).prob).ff (s.en e).prg (s.pb (s.en e).prob).nt → I5 (P m 19) e = ptsS (s.pb (s.en e).prob).pts ((s.pb (s.en e).prob).grp (s.en e).prg) 4 → (∀ j, j < 25 → I5 m j = I1 m j) → I5 m 38 = I1 m 38 → FrT tg (fun u => 11 ≤ u.1) I1 I5 → ∃ I', f_X8_judges_194 K P I5 m e (s.en e).prob ((s.pb (s.en e).prob).vd (s.en e).prg) e (P m 17) = some I' ∧ MH tg P I' m (judE s e) ∧ I' m 38 = I m 38 ∧ FrT tg (fun u => 11 ≤ u.1) I I' := by
    intro I5 w5 q18 q19 q25 q38 qt
    obtain ⟨⟨g1, g2, g3, g4⟩, g5, g6⟩ := u2.2.2.2.2.1 e he
    have d9 := hX.2 9 17 (by decide) (by decide) (by decide)
    have d14 := hX.2 14 17 (by decide) (by decide) (by decide)
    have d14b := hX.2 14 20 (by decide) (by decide) (by decide)
    have d21 := hX.2 21 17 (by decide) (by decide) (by decide)
    have d21b := hX.2 21 20 (by decide) (by decide) (by decide)
    have k9 : I5 (P m 9) (s.en e).prob = (s.pb (s.en e).prob).ver := by rw [w5 9 _ (by decide) (by omega)]; exact (u2.2.2.2.1 _ hp).1.2.2.1
    have k14 : I5 (P m 14) e = ((s.en e).team : Int) := by rw [w5 14 _ (by decide) (by omega)]; exact g1
    have k21 : ∀ j, j < 8 → I5 (P m 21) j = s.jud j := fun j hj => by rw [w5 21 _ (by decide) (by omega)]; exact u2.2.2.2.2.2.1.1 j hj
    have ht := hn.1
    unfold f_X8_judges_194
    rw [ck_t (by omega), bnd_e, ck_t (by omega), ck_t (by omega), bnd_e, Int.toNat_natCast, Int.toNat_natCast, up_b d9, k9, ck_t (by omega), up_b d14b, up_b d14, k14, ck_t (by omega), ck_t (by omega), bnd_e, Int.toNat_natCast, up_b d21b, up_b d21, k21 _ ht]
    refine ⟨_, rfl, ?_, ?_, ?_⟩
    · have ww : FrW P m (wJ e) I1 (up (up (up I5 (P m 17) e ((s.pb (s.en e).prob).vd (s.en e).prg)) (P m 20) e (s.pb (s.en e).prob).ver) (P m 21) (s.en e).team (wr (s.jud (s.en e).team + 1))) := (w5.mono (fun k j (z : (k = 18 ∨ k = 19) ∧ j = e ∨ 28 ≤ k) => by unfold wJ; omega)).tr ((FrW.u1 hX (by decide) (by unfold wJ; omega)).tr ((FrW.u1 hX (by decide) (by unfold wJ; omega)).tr (FrW.u1 hX (by decide) (by unfold wJ; omega))))
      have ww2 : FrW P m (fun k j => ((17 ≤ k ∧ k ≤ 20) ∧ j = e ∨ k = 21) ∨ 28 ≤ k) I1 (up (up (up I5 (P m 17) e ((s.pb (s.en e).prob).vd (s.en e).prg)) (P m 20) e (s.pb (s.en e).prob).ver) (P m 21) (s.en e).team (wr (s.jud (s.en e).team + 1))) := ww.mono (fun k j z => by unfold wJ at z; omega)
      refine u2.ej hs he ⟨⟨?_, ?_, ?_, ?_⟩, g5.fw hn.2.2.2.1.1 ww2 (by omega) (fun j _ => by omega), fun _ => ⟨?_, ?_, ?_⟩⟩ (fun k hk => ?_) ww (fun j hj => ?_)
      · rw [ww2 14 e (by decide) (by omega)]; exact g1
      · rw [ww2 15 e (by decide) (by omega)]; exact g2
      · rw [ww2 16 e (by decide) (by omega)]; exact g3
      · rw [up_b (hX.2 17 21 (by decide) (by decide) (by decide)), up_b (hX.2 17 20 (by decide) (by decide) (by decide)), up_s]; rfl
      · rw [up_b (hX.2 18 21 (by decide) (by decide) (by decide)), up_b (hX.2 18 20 (by decide) (by decide) (by decide)), up_b (hX.2 18 17 (by decide) (by decide) (by decide)), q18]; rfl
      · rw [up_b (hX.2 19 21 (by decide) (by decide) (by decide)), up_b (hX.2 19 20 (by decide) (by decide) (by decide)), up_b (hX.2 19 17 (by decide) (by decide) (by decide)), q19]; rfl
      · rw [up_b (hX.2 20 21 (by decide) (by decide) (by decide)), up_s]; rfl
      · rw [up_apply]
        unfold updf
        by_cases q : k = (s.en e).team
        · rw [if_pos ⟨rfl, q⟩, if_pos q]
        · rw [if_neg (fun z => q z.2), if_neg q, up_b d21b, up_b d21, k21 k hk]
      · rw [up_b (dm 21 (by decide)), up_b (dm 20 (by decide)), up_b (dm 17 (by decide)), q25 j hj]
    · rw [up_b (dm 21 (by decide)), up_b (dm 20 (by decide)), up_b (dm 17 (by decide)), q38, u3]
    · exact (u4.t h.1).tr (qt.tr ((FrT.up (t11 17 (by decide))).tr ((FrT.up (t11 20 (by decide))).tr (FrT.up (t11 21 (by decide))))))
  unfold f_X8_judges
  rw [ck_t (by omega), Int.toNat_natCast, (h.2.2.2.2.1 e he).1.2.1]
  have u1' : f_X8_judges_15 K P FU I m e (s.en e).prob 0 0 0 = _ := u1
  rw [u1']
  unfold f_X8_judges_83
  rw [ck_t (by omega), bnd_e, Int.toNat_natCast]
  have v1' := v1
  rw [show ((0 : Nat) : Int) = 0 from rfl] at v1'
  rw [v1']
  unfold f_X8_judges_144
  rw [a1, bi_s, ck_t (by omega), bnd_e, ck_t (by omega), Int.toNat_natCast, e18]
  by_cases c : (s.pb (s.en e).prob).ff (s.en e).prg (s.pb (s.en e).prob).nt = -1
  · rw [if_pos c]
    have := fin _ w4 e18 e19 m4 r4 t4
    rw [show (s.pb (s.en e).prob).vd (s.en e).prg = 0 from if_pos c] at this
    exact this
  · rw [if_neg c, ck_t (by omega)]
    have M4 := u2.mid hs he w4 m4
    have c2 : ((s.pb (s.en e).prob).ff (s.en e).prg (s.pb (s.en e).prob).nt).toNat < (s.pb (s.en e).prob).nt := by omega
    have hvd : (s.pb (s.en e).prob).vd (s.en e).prg = (s.pb (s.en e).prob).tryE (s.en e).prg ((s.pb (s.en e).prob).ff (s.en e).prg (s.pb (s.en e).prob).nt).toNat := if_neg c
    obtain ⟨I5, b1, b2, b3, b4⟩ := x_tryE2 (K := K) M4 (Hl.e1_ok hs (midE_ok hn)) he rfl rfl c2
    rw [show (((s.pb (s.en e).prob).ff (s.en e).prg (s.pb (s.en e).prob).nt).toNat : Int) = (s.pb (s.en e).prob).ff (s.en e).prg (s.pb (s.en e).prob).nt by omega] at b1
    rw [b1, bi_s, ← hvd]
    exact fin I5 (w4.tr ((b4.w h.1).mono (fun k j z => Or.inr z))) (by rw [b4.w h.1 18 e (by decide) (by omega)]; exact e18) (by rw [b4.w h.1 19 e (by decide) (by omega)]; exact e19) (fun j hj => (b4.2 j hj).trans (m4 j hj)) (b3.trans r4) (t4.tr (b4.t h.1))
end JU1
