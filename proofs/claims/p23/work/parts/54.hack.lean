abbrev hackC (s : Hl) (t e : Nat) : Prop := frE s (vT s 0) t (s.en e).prob s.ne ≠ -1 ∧ (s.en e).team ≠ t ∧ (s.en e).vd = 0 ∧ (s.pb (s.en e).prob).nt < 12 ∧ (runA (s.pb (s.en e).prob).sol s.din 500).e = 0
def hackV (s : Hl) (e : Nat) : Int := tryS (s.en e).prg (s.pb (s.en e).prob).lim (s.pb (s.en e).prob).chk s.din (runA (s.pb (s.en e).prob).sol s.din 500).o
def hkT (s : Hl) (e : Nat) : Hl := (s.sDin (0, s.din.2)).sP1 (s.en e).prob (addTr (s.pb (s.en e).prob) s.din 3)
def hackIn (s : Hl) (t e : Nat) : Out := if hackC s t e then (if hackV s e = 0 then (0, 0, (s.sDin (0, s.din.2)).sHck (updf s.hck t (wr (s.hck t - 1)))) else (0, 1, (judE (hkT s e) e).sHck (updf s.hck t (wr (s.hck t + 1))))) else (2, 0, s)
def hackS (s : Hl) (t e : Int) : Out := if 0 ≤ t ∧ t < 8 then (if 0 ≤ e ∧ e < (s.ne : Int) then hackIn s t.toNat e.toNat else (3, 0, s)) else (3, 0, s)
theorem hkT_ok {s : Hl} (h : s.ok) {t e : Nat} (he : e < s.ne) (hc : hackC s t e) : (hkT s e).ok :=
  Hl.p1_ok (s := s.sDin (0, s.din.2)) (Hl.din0_ok h) (addTr_ok (h.2.2.2.1 _ (h.2.2.2.2.2.1 e he).2.1) h.2.1 (by decide) hc.2.2.2.1 hc.2.2.2.2)
theorem Hl.hck_ok {s : Hl} {f : Nat → Int} (h : s.ok) : (s.sHck f).ok := ⟨h.1, h.2.1, h.2.2.1, h.2.2.2.1, h.2.2.2.2.1, h.2.2.2.2.2.1, h.2.2.2.2.2.2⟩
theorem hackS_ok {s : Hl} (h : s.ok) {t e : Int} : (hackS s t e).2.2.ok := by
  unfold hackS
  by_cases c1 : 0 ≤ t ∧ t < 8
  · rw [if_pos c1]
    by_cases c2 : 0 ≤ e ∧ e < (s.ne : Int)
    · rw [if_pos c2]
      unfold hackIn
      by_cases c3 : hackC s t.toNat e.toNat
      · rw [if_pos c3]
        by_cases c4 : hackV s e.toNat = 0
        · rw [if_pos c4]; exact Hl.hck_ok (Hl.din0_ok h)
        · rw [if_neg c4]
          have h1 := hkT_ok h (e := e.toNat) (by omega) c3
          have h2 : e.toNat < (hkT s e.toNat).ne := by show e.toNat < s.ne; omega
          exact Hl.hck_ok (judE_ok h1 h2)
      · rw [if_neg c3]; exact h
    · rw [if_neg c2]; exact h
  · rw [if_neg c1]; exact h
section HK1
variable {L : List Nat} {tg : Tg} {K : KT} {P : PT} {I : IT} {x m t e : Nat} {s : Hl}
theorem HR.hk1 {v : Int} (h : HR tg K P I x s) : HR tg K P (up I (P x 7) t v) x (s.sHck (updf s.hck t v)) := by
  have t7 := h.2.2.2.2.2.1.2.1
  have f7 : FrT tg (fun u => u = (8, 0, 7)) I (up I (P x 7) t v) := FrT.up t7
  have a8 := h.2.2.2.2.2
  have q2 := h.ar (rev := s.rev) (jud := s.jud) (hck := updf s.hck t v) (I' := up I (P x 7) t v) ⟨a8.1, by rw [f7.at a8.1.1 (by simp)]; exact a8.2.1, fun k hk => by
    rw [up_apply]
    unfold updf
    by_cases z : k = t
    · rw [if_pos ⟨rfl, z⟩, if_pos z]
    · rw [if_neg (fun y => z y.2), if_neg z]; exact a8.2.2.1 k hk, by rw [f7.at a8.1.2.2 (by simp)]; exact a8.2.2.2⟩ (f7.mono (fun u q => by rw [q]))
  exact q2
theorem MH.hk1 {v : Int} (h : MH tg P I m s) (hs : s.ok) : MH tg P (up I (P m 22) t v) m (s.sHck (updf s.hck t v)) := by
  have hX := h.1.xd
  have em : up I (P m 22) t v m = I m := up_b (Ne.symm (hX.1 22 (by decide)))
  have w : FrW P m (fun k _ => k = 22) I (up I (P m 22) t v) := FrW.u1 hX (by decide) rfl
  obtain ⟨a1, a2, a3⟩ := h.2.2.2.2.2.1
  have q2 := h.ar hs (rev := s.rev) (jud := s.jud) (hck := updf s.hck t v) (fz := s.frz) (I' := up I (P m 22) t v) ⟨fun k hk => by rw [w 21 k (by decide) (show ¬ 21 = 22 by decide)]; exact a1 k hk, fun k hk => by
    rw [up_apply]
    unfold updf
    by_cases z : k = t
    · rw [if_pos ⟨rfl, z⟩, if_pos z]
    · rw [if_neg (fun y => z y.2), if_neg z]; exact a2 k hk, fun k hk => by rw [w 24 k (by decide) (show ¬ 24 = 22 by decide)]; exact a3 k hk⟩ (h.2.1.fr (fun j _ => by rw [em])) (w.mono (fun k j (q : k = 22) => by omega))
  exact q2
theorem vT0 {k : Nat} : vT s 0 k = (s.en k).vd := if_neg (fun z => z.1 rfl)
theorem h_has_l {p : Nat} (h : HR tg K P I x s) (hs : s.ok) (hp : p < s.np) : ∀ (d fuel k : Nat), d < fuel → k + d = s.ne → frE s (vT s 0) t p k = -1 → f_X7_hasSolved_2 K P I fuel x t (elt P (P x 3) p) (k : Int) = some (if frE s (vT s 0) t p s.ne = -1 then 0 else 1) := by
  have hne := hs.2.2.2.2.1
  intro d
  induction d with
  | zero =>
    intro fuel k hf hk hfr
    obtain ⟨n, rfl⟩ : ∃ n, fuel = n + 1 := ⟨fuel - 1, by omega⟩
    have hk : k = s.ne := hk
    unfold f_X7_hasSolved_2
    rw [hk] at hfr
    rw [h.2.2.2.2.1.2.1.1, if_pos (by omega), if_pos hfr]
  | succ d ih =>
    intro fuel k hf hk hfr
    obtain ⟨n, rfl⟩ : ∃ n, fuel = n + 1 := ⟨fuel - 1, by omega⟩
    have hkn : k < s.ne := by omega
    obtain ⟨q1, q2, q3, q4⟩ := h.2.2.2.2.1.2.2 k hkn
    have hn := hs.2.2.2.2.2.1 k hkn
    have n1 : I (P (elt P (P x 4) k) 1) 0 = ((s.en k).prob : Int) := by rw [q3]; exact (h.2.2.2.1.2.2 _ hn.2.1).2.1.1
    have n2 : I (elt P (P x 3) p) 0 = (p : Int) := (h.2.2.2.1.2.2 p hp).2.1.1
    have pass : ¬ ((s.en k).team = t ∧ (s.en k).prob = p ∧ vT s 0 k = 0) → f_X7_hasSolved_60 K P (f_X7_hasSolved_2 K P I n) I x t (elt P (P x 3) p) k = some (if frE s (vT s 0) t p s.ne = -1 then 0 else 1) := fun z => by
      unfold f_X7_hasSolved_60
      rw [show wr ((k : Int) + 1) = ((k + 1 : Nat) : Int) by rw [wr_id (by omega) (by omega)]; rfl]
      exact ih n (k + 1) (by omega) (by omega) ((frE_o z).trans hfr)
    unfold f_X7_hasSolved_2
    rw [h.2.2.2.2.1.2.1.1, if_neg (by omega), h_eget h hkn, bp_s, q4.1, n1, n2, q4.2.2.1]
    by_cases c1 : (s.en k).team = t
    · rw [if_pos (by omega)]
      by_cases c2 : (s.en k).prob = p
      · rw [if_pos (by omega)]
        by_cases c3 : (s.en k).vd = 0
        · have := frE_hi (v := vT s 0) hfr ⟨c1, c2, by rw [vT0]; exact c3⟩ s.ne (by omega)
          rw [if_pos c3, if_neg (by omega)]
        · rw [if_neg c3]; exact pass (fun z => c3 (by rw [← vT0]; exact z.2.2))
      · rw [if_neg (by omega)]; exact pass (fun z => c2 z.2.1)
    · rw [if_neg (by omega)]; exact pass (fun z => c1 z.1)
theorem h_hack {v w : Int} (h : HR tg K P I x s) (hs : s.ok) (hT : TL tg L) (hK : KL K L) : w_X7_hack L K P I x v w (KOut tg P I x (hackS s v w)) := by
  unfold w_X7_hack hackS
  refine ⟨_, _, _, n_index, ?_, ?_⟩
  · intro hc
    by_cases c1 : 0 ≤ v ∧ v < 8
    · rw [if_pos c1] at hc; exact absurd rfl hc
    · rw [if_neg c1, if_neg c1]; exact KOut.same (by decide) h hT hK
  intro hc
  have c1 : 0 ≤ v ∧ v < 8 := Classical.byContradiction fun z => by rw [if_neg z] at hc; exact absurd hc (by decide)
  rw [if_pos c1]
  by_cases c2 : 0 ≤ w ∧ w < (s.ne : Int)
  · rw [if_pos c2]
    refine ⟨_, _, _, (h_eAt h).trans (by rw [if_pos c2]), fun hc => absurd rfl hc, fun _ => ⟨h.2.2.2.2.1.2.1.2.1 _ (by omega), ?_⟩⟩
    have hen : w.toNat < s.ne := by omega
    have hn := hs.2.2.2.2.2.1 w.toNat hen
    have hpn := hn.2.1
    have hb := hs.2.2.2.1 _ hpn
    obtain ⟨q1, q2, q3, q4⟩ := h.2.2.2.2.1.2.2 w.toNat hen
    have hp := h.2.2.2.1.2.2 _ hpn
    have ev : v = ((v.toNat : Nat) : Int) := by omega
    have hv8 : v.toNat < 8 := by omega
    have fail : ∀ I2, HR tg K P I2 x s → (∀ (m : Nat) (s2 : Hl), MH tg P I m s2 → s2.ok → MH tg P I2 m s2) → ¬ hackC s v.toNat w.toNat → KOut tg P I x (hackIn s v.toNat w.toNat) 2 0 L K P I2 := fun I2 h2 m2 hc => by
      unfold hackIn
      rw [if_neg hc]
      exact ⟨⟨rfl, fun z => absurd z (by decide)⟩, tg, h2, hT, hK, m2⟩
    have fail0 : ¬ hackC s v.toNat w.toNat → KOut tg P I x (hackIn s v.toNat w.toNat) 2 0 L K P I := fail I h (fun _ _ hm _ => hm)
    have hsol : f_X7_hasSolved K P I x v (P (elt P (P x 4) w.toNat) 1) = some (if frE s (vT s 0) v.toNat (s.en w.toNat).prob s.ne = -1 then 0 else 1) := by
      rw [q3]
      have := h_has_l (K := K) (t := v.toNat) h hs hpn s.ne FU 0 (by have := hs.2.2.2.2.1; unfold FU; omega) (by omega) rfl
      rw [← ev] at this
      exact this
    refine ⟨_, hsol, fun hc => ?_, fun hc => ?_⟩
    · exact fail0 (fun z => by rw [if_neg z.1] at hc; exact absurd hc (by decide))
    have k1 : frE s (vT s 0) v.toNat (s.en w.toNat).prob s.ne ≠ -1 := fun z => by rw [if_pos z] at hc; exact absurd rfl hc
    show (I (elt P (P x 4) w.toNat) 0 = v → _) ∧ (¬ I (elt P (P x 4) w.toNat) 0 = v → (I (elt P (P x 4) w.toNat) 4 = 0 → (12 ≤ I (P (P (elt P (P x 4) w.toNat) 1) 3) 2 → _) ∧ (¬ 12 ≤ I (P (P (elt P (P x 4) w.toNat) 1) 3) 2 → _)) ∧ (¬ I (elt P (P x 4) w.toNat) 4 = 0 → _))
    rw [q4.1, q4.2.2.1, q3, hp.2.2.2.1.1]
    refine ⟨fun hc => fail0 (fun z => z.2.1 (by omega)), fun k2 => ⟨fun k3 => ⟨fun hc => fail0 (fun z => by have := z.2.2.2.1; omega), fun k4 => ?_⟩, fun hc => fail0 (fun z => hc z.2.2.1)⟩⟩
    obtain ⟨I8, u1, u2, u3⟩ := h_findsAnswer (K := K) h.2.1 hb.2.2.1 hs.2.1 hp.2.2.1 h.2.2.1.2 (by decide) (by decide)
    have h8 : HR tg K P I8 x s := h.fr (u3.mono fun u => tgM_scr)
    have M8 : ∀ (m : Nat) (s2 : Hl), MH tg P I m s2 → s2.ok → MH tg P I8 m s2 := fun m s2 hm hs2 => hm.h hs2 (u3.mono (fun u (q : u.1 = 3) => by show u.1 ≤ 10; rw [q]; decide))
    refine ⟨_, _, u1, fun hc => fail I8 h8 M8 (fun z => by rw [if_pos z.2.2.2.2] at hc; exact absurd hc (by decide)), fun hc => ?_⟩
    have k5 : (runA (s.pb (s.en w.toNat).prob).sol s.din 500).e = 0 := Classical.byContradiction fun z => by rw [if_neg z] at hc; exact absurd rfl hc
    have kC : hackC s v.toNat w.toNat := ⟨k1, fun z => k2 (by omega), k3, by omega, k5⟩
    have eo : hackIn s v.toNat w.toNat = if hackV s w.toNat = 0 then (0, 0, (s.sDin (0, s.din.2)).sHck (updf s.hck v.toNat (wr (s.hck v.toNat - 1)))) else (0, 1, (judE (hkT s w.toNat) w.toNat).sHck (updf s.hck v.toNat (wr (s.hck v.toNat + 1)))) := if_pos kC
    rw [eo]
    have ho := runA_ou hb.2.2.1 hs.2.1 500
    refine mk_trial2 (i := (s.en w.toNat).prob) (j := (s.pb (s.en w.toNat).prob).nt) h8 hs hT hK u2 ho.1 (fun q L2 tg2 K2 P2 I2 b1 b2 b3 b4 => ?_)
    have h2 := h8.gw hs b1 hT hK (fun _ _ => id)
    have px := (b1.at hT h.1.1 (show 0 < 20 by decide) id).1
    have elp : elt P2 (P2 x 3) (s.en w.toNat).prob = elt P (P x 3) (s.en w.toNat).prob := (h8.2.2.2.1.gw h8.1.1 b1 hT hK (fun _ _ => id) id id (fun _ _ => id) (fun _ _ => id)).2 _ hpn
    have ele : elt P2 (P2 x 4) w.toNat = elt P (P x 4) w.toNat := by
      rw [px]
      exact (h8.2.2.2.2.1.2.1.gw b1 hT hK h8.2.2.2.2.1.1.1 (show 9 < 20 by decide) id h8.2.2.2.2.1.1.2 (show 9 < 20 by decide) id (by decide)).2.1 _ hen
    have t2 := h2.2.2.1.2
    have h3 := h2.din (I' := up I2 (P2 x 1) 1 0) (r := (0, s.din.2)) ⟨t2.1, by rw [up_s]; rfl, fun j hj => absurd hj (Nat.not_lt_zero _)⟩ (FrT.up ⟨0, t2.1.1⟩)
    have fd : FrT tg2 (fun u => u = (2, 0, 0)) I2 (up I2 (P2 x 1) 1 0) := FrT.up t2.1.1
    have b5 : TrR tg2 P2 (up I2 (P2 x 1) 1 0) (s.en w.toNat).prob (s.pb (s.en w.toNat).prob).nt q s.din (runA (s.pb (s.en w.toNat).prob).sol s.din 500).o 3 := b4.fr fd (fun k => by simp)
    show biP (f_X7_tryOut K2 P2 (up I2 (P2 x 1) 1 0) x (elt P (P x 4) w.toNat) q) _
    rw [← ele]
    obtain ⟨p1, p2, p3, p4⟩ := h3.2.2.2.2.1.2.2 w.toNat hen
    have hp3 := h3.2.2.2.1.2.2 _ hpn
    obtain ⟨I3, v1, v2⟩ := h_try (K := K2) (n := s.en w.toNat) (b := s.pb (s.en w.toNat).prob) (i := (s.en w.toNat).prob) h3.2.1 hb hn.2.2.2.1 hs.2.1 ho p2 p3 hp3.2.1.2.1 hp3.2.1.2.2.1 hp3.1.1 b5
    have h4 : HR tg2 K2 P2 I3 x (s.sDin (0, s.din.2)) := h3.fr (v2.mono fun u => tgM_scr)
    have M3 : ∀ (m : Nat) (s2 : Hl), MH tg P I m s2 → s2.ok → MH tg2 P2 I3 m s2 := fun m s2 hm hs2 => (((M8 m s2 hm hs2).gw hs2 b1 hT (fun _ _ => id)).h hs2 (FrT.up (by rw [t2.1.1]; decide))).h hs2 (v2.mono (fun u (q : u.1 = 3) => by show u.1 ≤ 10; rw [q]; decide))
    have v1' : f_X7_tryOut K2 P2 (up I2 (P2 x 1) 1 0) x (elt P2 (P2 x 4) w.toNat) q = some (hackV s w.toNat, I3) := by
      unfold hackV
      exact v1
    refine ⟨_, _, v1', fun hc => ?_, fun hc => ?_⟩
    · rw [if_pos hc]
      refine ⟨c1, c1, ?_⟩
      have e7 : I3 (P2 x 7) v.toNat = s.hck v.toNat := h4.2.2.2.2.2.2.2.1 _ hv8
      show KOut tg P I x _ 0 0 L2 K2 P2 (up I3 (P2 x 7) v.toNat (wr (I3 (P2 x 7) v.toNat - 1)))
      rw [e7]
      exact ⟨⟨rfl, fun _ => rfl⟩, tg2, h4.hk1, b1.2.1, b1.2.2, fun m s2 hm hs2 => (M3 m s2 hm hs2).h hs2 (FrT.up (by rw [h4.2.2.2.2.2.1.2.1]; decide))⟩
    · rw [if_neg hc]
      have b6 : TrR tg2 P2 I3 (s.en w.toNat).prob (s.pb (s.en w.toNat).prob).nt q s.din (runA (s.pb (s.en w.toNat).prob).sol s.din 500).o 3 := b5.fr v2 (fun k => show ¬ 5 = 3 by decide)
      have q3' : P (elt P (P x 4) w.toNat) 1 = elt P2 (P2 x 3) (s.en w.toNat).prob := q3.trans elp.symm
      show w_X2_addTrial L2 K2 P2 I3 (elt P (P x 3) (s.en w.toNat).prob) q _
      rw [← elp]
      refine h_addTrial (s := s.sDin (0, s.din.2)) h4 (Hl.din0_ok hs) b1.2.1 b1.2.2 hpn (show (s.pb (s.en w.toNat).prob).nt < 12 by omega) b3 b6 (fun L4 tg4 K4 P4 I4 g4 h5 e4 e5 => ?_)
      have h5' : HR tg4 K4 P4 I4 x (hkT s w.toNat) := h5
      have px4 : P4 x = P2 x := (g4.at b1.2.1 h4.1.1 (show 0 < 20 by decide) (by simp)).1
      have ele4 : elt P4 (P4 x 4) w.toNat = elt P2 (P2 x 4) w.toNat := by
        rw [px4]
        exact (h4.2.2.2.2.1.2.1.gw g4 b1.2.1 b1.2.2 h4.2.2.2.2.1.1.1 (show 9 < 20 by decide) (by simp) h4.2.2.2.2.1.1.2 (show 9 < 20 by decide) (by simp) (by decide)).2.1 _ hen
      obtain ⟨I5, w1, w2, w3⟩ := h_giveVerdict (K := K4) (e := w.toNat) h5' (hkT_ok hs hen kC) hen
      have ele5 : P (P (P x 4) 1) w.toNat = elt P4 (P4 x 4) w.toNat := (ele4.trans ele).symm
      rw [ele5]
      refine ⟨I5, w1, c1, c1, ?_⟩
      have e7 : I5 (P4 x 7) v.toNat = s.hck v.toNat := w2.2.2.2.2.2.2.2.1 _ hv8
      show KOut tg P I x _ 0 1 L4 K4 P4 (up I5 (P4 x 7) v.toNat (wr (I5 (P4 x 7) v.toNat + 1)))
      rw [e7]
      refine ⟨⟨rfl, fun _ => rfl⟩, tg4, w2.hk1, g4.2.1, g4.2.2, fun m s2 hm hs2 => ?_⟩
      have m4 := (M3 m s2 hm hs2).gw hs2 g4 b1.2.1 (fun u hu z => by have := z.1; omega)
      exact (m4.h hs2 w3).h hs2 (FrT.up (by rw [w2.2.2.2.2.2.1.2.1]; decide))
  · rw [if_neg c2]
    exact ⟨_, 0, _, (h_eAt h).trans (by rw [if_neg c2]), fun _ => KOut.same (by decide) h hT hK, fun hc => absurd hc (by decide)⟩
-- the model
end HK1
