section CL6
variable {tg : Tg} {K : KT} {P : PT} {I : IT} {x m a t i c : Nat} {s : Hl} {ks : List Nat}
/-- places k .. n of one row are made 0 -/
def zer (a n k : Nat) (I I' : IT) : Prop := (∀ j, k ≤ j → j < n → I' a j = 0) ∧ (∀ j, j < k → I' a j = I a j) ∧ ∀ b, b ≠ a → I' b = I b
theorem zer.rf {a n k : Nat} (h : n ≤ k) : zer a n k I I := ⟨fun j h1 h2 => absurd h1 (by omega), fun _ _ => rfl, fun _ _ => rfl⟩
theorem zer.st {a n k : Nat} {I' : IT} (hk : k < n) (h : zer a n (k + 1) (up I a k 0) I') : zer a n k I I' := by
  obtain ⟨h1, h2, h3⟩ := h
  refine ⟨fun j g1 g2 => ?_, fun j hj => ?_, fun b hb => (h3 b hb).trans (up_b hb)⟩
  · by_cases q : j = k
    · subst q; rw [h2 j (by omega), up_s]
    · exact h1 j (by omega) g2
  · rw [h2 j (by omega), up_k _ _ _ _ (by omega)]
theorem h_frz_l : ∀ (d fuel k : Nat) (I : IT), d < fuel → k + d = 48 → ∃ I', f_X7_freeze_15 K P fuel I x (k : Int) = some (0, (), I') ∧ zer (P x 8) 48 k I I' := by
  intro d
  induction d with
  | zero =>
    intro fuel k I hf hk
    obtain ⟨n, rfl⟩ : ∃ n, fuel = n + 1 := ⟨fuel - 1, by omega⟩
    unfold f_X7_freeze_15
    rw [if_pos (by omega)]
    exact ⟨I, rfl, zer.rf (by omega)⟩
  | succ d ih =>
    intro fuel k I hf hk
    obtain ⟨n, rfl⟩ : ∃ n, fuel = n + 1 := ⟨fuel - 1, by omega⟩
    unfold f_X7_freeze_15
    rw [if_neg (by omega), ck_t (by omega), bnd_e, Int.toNat_natCast, show wr ((k : Int) + 1) = ((k + 1 : Nat) : Int) by rw [wr_id (by omega) (by omega)]; rfl]
    obtain ⟨I', u1, u2⟩ := ih n (k + 1) (up I (P x 8) k 0) (by omega) (by omega)
    exact ⟨I', u1, u2.st (by omega)⟩
theorem x_frz_l : ∀ (d fuel k : Nat) (I : IT), d < fuel → k + d = 48 → ∃ I', f_X8_freeze_34 K P fuel I m (k : Int) = some I' ∧ zer (P m 24) 48 k I I' := by
  intro d
  induction d with
  | zero =>
    intro fuel k I hf hk
    obtain ⟨n, rfl⟩ : ∃ n, fuel = n + 1 := ⟨fuel - 1, by omega⟩
    unfold f_X8_freeze_34
    rw [if_pos (by omega)]
    exact ⟨I, rfl, zer.rf (by omega)⟩
  | succ d ih =>
    intro fuel k I hf hk
    obtain ⟨n, rfl⟩ : ∃ n, fuel = n + 1 := ⟨fuel - 1, by omega⟩
    unfold f_X8_freeze_34
    rw [if_neg (by omega), ck_t (by omega), bnd_e, Int.toNat_natCast, show wr ((k : Int) + 1) = ((k + 1 : Nat) : Int) by rw [wr_id (by omega) (by omega)]; rfl]
    obtain ⟨I', u1, u2⟩ := ih n (k + 1) (up I (P m 24) k 0) (by omega) (by omega)
    exact ⟨I', u1, u2.st (by omega)⟩
theorem h_freeze {v : Int} (h : HR tg K P I x s) : ∃ I', f_X7_freeze K P I x v = some ((freezeS s v).1, (), I') ∧ HR tg K P I' x (freezeS s v).2.2 ∧ FrT tg (fun u => u.1 ≤ 10) I I' := by
  unfold f_X7_freeze freezeS
  rw [n_range]
  by_cases c1 : -1 ≤ v ∧ v ≤ 9999
  · rw [if_pos c1, bx_0, if_pos c1, bnd_e]
    have h1 := h.x0 (I' := up I x 11 v) (mi := s.min) (fz := v) ⟨h.1.1, h.1.2.1, by rw [up_k _ _ _ _ (by decide)]; exact h.1.2.2.1, up_s _ _ _ _⟩ (FrT.up h.1.1)
    have f1 : FrT tg (fun u => u.1 ≤ 10) I (up I x 11 v) := FrT.up (by rw [h.1.1]; decide)
    generalize up I x 11 v = I1 at h1 f1 ⊢
    obtain ⟨I', u1, u2, u3, u4⟩ := h_frz_l (K := K) (P := P) (x := x) 48 FU 0 I1 (by decide) (by decide)
    have t8 := h1.2.2.2.2.2.1.2.2
    have f8 : FrT tg (fun u => u = (8, 0, 8)) I1 I' := fun b hb => u4 b (fun e => hb (by rw [e]; exact t8))
    have a8 := h1.2.2.2.2.2
    have q : HRa tg P I' x (fun _ => 0) s.jud s.hck := by
      refine ⟨a8.1, ?_, ?_, fun k hk => u2 k (Nat.zero_le _) hk⟩
      · rw [f8.at a8.1.1 (by simp)]; exact a8.2.1
      · rw [f8.at a8.1.2.1 (by simp)]; exact a8.2.2.1
    refine ⟨I', u1, ?_, f1.tr (f8.mono (fun u hu => by rw [hu]; exact (show 8 ≤ 10 by decide)))⟩
    have q2 := h1.ar q (f8.mono (fun u hu => by rw [hu]))
    have e : (((((s.sMin s.min).sFrz v s.rev).sFrz ((s.sMin s.min).sFrz v s.rev).frz (fun _ => 0)).sJud s.jud).sHck s.hck) = s.sFrz v (fun _ => 0) := rfl
    rw [e] at q2
    exact q2
  · rw [if_neg c1, if_neg c1, bx_s (by decide)]
    exact ⟨I, rfl, h, FrT.rf⟩
theorem MH.ar {I' : IT} {rev jud hck : Nat → Int} {fz : Int} (h : MH tg P I m s) (hs : s.ok) (h1 : XAr P I' m rev jud hck) (h2 : XF I' m s.min s.np s.ne fz) (hw : FrW P m (fun k _ => 21 ≤ k) I I') : MH tg P I' m (((s.sFrz fz rev).sJud jud).sHck hck) := by
  obtain ⟨a1, a2, ⟨a3, a4⟩, a5, a6, a7, a8⟩ := h
  obtain ⟨s1, s2, s3, s4, s5, s6, -⟩ := hs
  exact ⟨a1, h2, ⟨a3.fw s1.1 hw (by omega) (fun j _ => by omega), a4.fw s2.1 hw (by omega) (fun j _ => by omega)⟩, fun i hi => (a5 i hi).fw (s4 i hi) hw (by omega) (fun j _ => by omega) (fun j _ => by omega) (fun j _ => by omega) (fun j _ => by omega), fun e he => (a6 e he).fw (s6 e he).2.2.2.1.1 hw (by omega) (fun j _ => by omega), h1, a8.fw (Nat.le_refl _) hw (fun i _ _ => ⟨by omega, by omega, fun k _ => by omega⟩)⟩
theorem x_freeze {v : Int} (h : MH tg P I m s) (hs : s.ok) : ∃ I', f_X8_freeze K P I m v = some I' ∧ I' m 38 = hnm [1] (freezeS s v).1 ∧ MH tg P I' m (freezeS s v).2.2 ∧ FrT tg (fun u => 11 ≤ u.1) I I' := by
  have hX := h.1.xd
  unfold f_X8_freeze freezeS
  rw [x_isIn, bp_s]
  by_cases c1 : -1 ≤ v ∧ v ≤ 9999
  · rw [if_pos c1, if_neg (by decide), if_pos c1]
    obtain ⟨h1, f1⟩ := h.thr hs (v := 0)
    have e38 : up I m 38 0 m 38 = 0 := up_s _ _ _ _
    unfold f_X8_freeze_17
    rw [bnd_e]
    generalize up I m 38 0 = I1 at h1 f1 e38 ⊢
    rw [e38, if_pos rfl, bnd_e]
    obtain ⟨I', u1, u2, u3, u4⟩ := x_frz_l (K := K) (P := P) (m := m) 48 FU 0 (up I1 m 23 v) (by decide) (by decide)
    have em : I' m = up I1 m 23 v m := u4 m (Ne.symm (hX.1 24 (by decide)))
    have hw : FrW P m (fun k _ => k = 24) I1 I' := fun k j hk hn => by
      rw [u4 (P m k) (hX.2 k 24 hk (by decide) hn), up_b (hX.1 k hk)]
    refine ⟨I', u1, ?_, ?_, ?_⟩
    · rw [em, up_k _ _ _ _ (by decide)]; exact e38
    · refine h1.ar hs (rev := fun _ => 0) (jud := s.jud) (hck := s.hck) (fz := v) ⟨fun k hk => ?_, fun k hk => ?_, fun k hk => u2 k (Nat.zero_le _) hk⟩ ⟨?_, ?_, ?_, ?_⟩ (hw.mono (fun k j q => by omega))
      · rw [hw 21 k (by decide) (show ¬ 21 = 24 by decide)]; exact h1.2.2.2.2.2.1.1 k hk
      · rw [hw 22 k (by decide) (show ¬ 22 = 24 by decide)]; exact h1.2.2.2.2.2.1.2.1 k hk
      · rw [em, up_k _ _ _ _ (by decide)]; exact h1.2.1.1
      · rw [em, up_k _ _ _ _ (by decide)]; exact h1.2.1.2.1
      · rw [em, up_k _ _ _ _ (by decide)]; exact h1.2.1.2.2.1
      · rw [em, up_s]
    · refine f1.tr (fun b hb => ?_)
      rw [u4 b (fun e => hb (by show 11 ≤ (tg b).1; rw [e, h.1.2 24 (by decide)]; decide)), up_b (fun e => hb (by show 11 ≤ (tg b).1; rw [e, h.1.1]; decide))]
  · rw [if_neg c1, if_pos rfl, if_neg c1]
    unfold f_X8_freeze_17
    rw [bnd_e, up_s, if_neg (by decide)]
    exact ⟨_, rfl, up_s _ _ _ _, (h.thr hs).1, (h.thr hs).2⟩
/-- the model works an answer out -/
theorem x_ans_l : ∀ (d fuel k : Nat) (I : IT) (o : Rw), d < fuel → k + d = o.1 → o.1 ≤ 8 → XD P m → XRow P I m 27 28 o → (∀ j, j < k → I (P m 32) j = o.2 j) → ∃ I', f_X8_answers_19 K P fuel I m (k : Int) = some ((if I m 25 = 0 then 1 else 0), I') ∧ (∀ j, j < o.1 → I' (P m 32) j = o.2 j) ∧ ∀ b, b ≠ P m 32 → I' b = I b := by
  intro d
  induction d with
  | zero =>
    intro fuel k I o hf hk h8 hX h hj
    obtain ⟨n, rfl⟩ : ∃ n, fuel = n + 1 := ⟨fuel - 1, by omega⟩
    unfold f_X8_answers_19 f_X8_answers_45
    rw [h.1, if_pos (by omega)]
    refine ⟨I, ?_, fun j q => hj j (by omega), fun _ _ => rfl⟩
    by_cases c : I m 25 = 0
    · rw [if_pos c, if_pos c]
    · rw [if_neg c, if_neg c]
  | succ d ih =>
    intro fuel k I o hf hk h8 hX h hj
    obtain ⟨n, rfl⟩ : ∃ n, fuel = n + 1 := ⟨fuel - 1, by omega⟩
    have d28 := hX.2 28 32 (by decide) (by decide) (by decide)
    have dm := Ne.symm (hX.1 32 (by decide))
    unfold f_X8_answers_19
    rw [h.1, if_neg (by omega), ck_t (by omega), ck_t (by omega), bnd_e, Int.toNat_natCast, show wr ((k : Int) + 1) = ((k + 1 : Nat) : Int) by rw [wr_id (by omega) (by omega)]; rfl, h.2 k (by omega)]
    obtain ⟨I', u1, u2, u3⟩ := ih n (k + 1) (up I (P m 32) k (o.2 k)) o (by omega) (by omega) h8 hX ⟨by rw [up_b dm]; exact h.1, fun j q => by rw [up_b d28]; exact h.2 j q⟩ (fun j q => by
      rw [up_apply]
      by_cases c : j = k
      · rw [if_pos ⟨rfl, c⟩, c]
      · rw [if_neg (fun e => c e.2)]; exact hj j (by omega))
    rw [up_b dm] at u1
    exact ⟨I', u1, u2, fun b hb => (u3 b hb).trans (up_b hb)⟩
theorem x_answers {sl inp : Nat} {g : Pg} {r : Rw} (h : MH tg P I m s) (hs : s.ok) (hg : g.ok) (hr : r.ok) (hsl : sl < 67) (hin : inp < 73) (hP : XPg P I m sl g) (hR : XIn P I m inp r) :
    ∃ I', f_X8_answers K P I m sl inp = some ((if (runA g r 500).e = 0 then 1 else 0), I') ∧ XRow P I' m 31 32 (runA g r 500).o ∧ MH tg P I' m s ∧ I' m 38 = I m 38 ∧ FrY tg m I I' := by
  have hX := h.1.xd
  obtain ⟨I1, u1, u2, u3, u4, u5, u6, u7⟩ := x_runM (K := K) h hs hg hr hsl hin 500 (by decide) hP hR
  unfold f_X8_answers
  rw [show (500 : Int) = ((500 : Nat) : Int) from rfl, u1, bp_s, bnd_e, u3.1]
  have ho := (runA_ou hg hr 500).1
  obtain ⟨I', k1, k2, k3⟩ := x_ans_l (K := K) (runA g r 500).o.1 FU 0 (up I1 m 31 ((runA g r 500).o.1 : Int)) (runA g r 500).o (by unfold FU; omega) (by omega) ho hX (u3.up (by decide) (hX.1 28 (by decide))) (fun j q => absurd q (Nat.not_lt_zero _))
  rw [up_k _ _ _ _ (by decide), u2] at k1
  have em : I' m = up I1 m 31 ((runA g r 500).o.1 : Int) m := k3 m (Ne.symm (hX.1 32 (by decide)))
  have f : FrY tg m I1 I' := by
    refine ⟨fun b g1 g2 => ?_, fun j hj => by rw [em, up_k _ _ _ _ (by omega)]⟩
    rw [k3 b (fun e => g2 (by rw [e, h.1.2 32 (by decide)]; exact ⟨rfl, by decide⟩)), up_b g1]
  exact ⟨I', k1, ⟨by rw [em, up_s], k2⟩, u5.y hs f, by rw [em, up_k _ _ _ _ (by decide)]; exact u6, u7.tr f⟩
end CL6
