theorem frE_inv {s : Hl} {v : Nat → Int} {t p c : Nat} : ∀ n, frE s v t p n = (c : Int) → c < n ∧ frE s v t p c = -1 ∧ ((s.en c).team = t ∧ (s.en c).prob = p ∧ v c = 0) ∧ trE s v t p n = trE s v t p c
  | 0, h => by
    have : (-1 : Int) = (c : Int) := h
    omega
  | n + 1, h => by
    by_cases c1 : frE s v t p n = -1
    · by_cases c2 : (s.en n).team = t ∧ (s.en n).prob = p ∧ v n = 0
      · have := frE_n c1 c2
        rw [h] at this
        obtain rfl : c = n := by omega
        exact ⟨by omega, c1, c2, trE_o (fun z => z.2.2.2.2 c2.2.2)⟩
      · have := frE_o (s := s) (v := v) (t := t) (p := p) (k := n) c2
        rw [h, c1] at this
        omega
    · have e := frE_s c1
      rw [h] at e
      obtain ⟨h1, h2, h3, h4⟩ := frE_inv n e.symm
      exact ⟨by omega, h2, h3, (trE_o (fun z => c1 z.1)).trans h4⟩
theorem frE_lo {s : Hl} {v : Nat → Int} {t p : Nat} : ∀ n, frE s v t p n = -1 → ∀ j, j ≤ n → frE s v t p j = -1
  | 0, h, j, hj => by
    obtain rfl : j = 0 := by omega
    exact h
  | n + 1, h, j, hj => by
    by_cases c : j = n + 1
    · rw [c]; exact h
    · refine frE_lo n ?_ j (by omega)
      by_cases c1 : frE s v t p n = -1
      · exact c1
      · rw [frE_s c1] at h; exact absurd h c1
theorem frE_hi {s : Hl} {v : Nat → Int} {t p k : Nat} (h : frE s v t p k = -1) (h2 : (s.en k).team = t ∧ (s.en k).prob = p ∧ v k = 0) : ∀ q, k + 1 ≤ q → frE s v t p q = (k : Int) := by
  intro q hq
  induction q with
  | zero => omega
  | succ q ih =>
    by_cases z : k = q
    · subst z; exact frE_n h h2
    · have := ih (by omega)
      rw [frE_s (by rw [this]; omega), this]
section BO3
variable {tg : Tg} {K : KT} {P : PT} {I : IT} {x m a b i c p e : Nat} {s : Hl} {ks : List Nat} {v : Nat → Int}
/-- writes of the model's scratch alone, the boards' with it -/
def FrZ (tg : Tg) (m : Nat) (I I' : IT) : Prop := (∀ b, b ≠ m → ¬ ((tg b).1 = 12 ∧ 28 ≤ (tg b).2.2) → I' b = I b) ∧ ∀ j, j < 25 → I' m j = I m j
theorem FrZ.rf : FrZ tg m I I := ⟨fun _ _ _ => rfl, fun _ _ => rfl⟩
theorem FrZ.tr {I1 I2 : IT} (h : FrZ tg m I I1) (h2 : FrZ tg m I1 I2) : FrZ tg m I I2 := ⟨fun b g1 g2 => (h2.1 b g1 g2).trans (h.1 b g1 g2), fun j hj => (h2.2 j hj).trans (h.2 j hj)⟩
theorem FrY.z {I' : IT} (h : FrY tg m I I') : FrZ tg m I I' := ⟨fun b g1 g2 => h.1 b g1 (fun z => g2 ⟨z.1, z.2.1⟩), h.2⟩
theorem FrZ.ua {k j : Nat} {v : Int} (hT : XT tg P m) (hk : tt 9 k ≠ 0) (h28 : 28 ≤ k) : FrZ tg m I (up I (P m k) j v) := by
  refine ⟨fun b _ g2 => up_b (fun q => g2 ?_), fun i _ => by rw [up_b (Ne.symm (hT.xd.1 k hk))]⟩
  rw [q, hT.2 k hk]
  exact ⟨rfl, h28⟩
theorem FrZ.w {I' : IT} (hT : XT tg P m) (h : FrZ tg m I I') : FrW P m (fun k _ => 28 ≤ k) I I' := fun k j hk hn => by
  rw [h.1 _ (hT.xd.1 k hk) (fun q => hn (by rw [hT.2 k hk] at q; exact q.2))]
theorem FrZ.ft {I' : IT} (hT : XT tg P m) (h : FrZ tg m I I') : FrT tg (fun u => 11 ≤ u.1) I I' := fun b hb => h.1 b (fun q => hb (by show 11 ≤ (tg b).1; rw [q, hT.1]; decide)) (fun q => hb (by show 11 ≤ (tg b).1; rw [q.1]; decide))
theorem MH.z {I' : IT} (h : MH tg P I m s) (hs : s.ok) (hf : FrZ tg m I I') : MH tg P I' m s := h.w hs (hf.w h.1) hf.2
/-- the model holds the hall, and what is told of each entry -/
def BV (tg : Tg) (P : PT) (I : IT) (m : Nat) (s : Hl) (v : Nat → Int) : Prop := MH tg P I m s ∧ ∀ e, e < s.ne → I (P m 33) e = v e
/-- only the boards' places of a team are written -/
def FB (P : PT) (m t : Nat) (I I' : IT) : Prop := ∀ b j, ¬ ((b = P m 34 ∨ b = P m 35 ∨ b = P m 36) ∧ j = t) → I' b j = I b j
theorem FB.rf {t : Nat} : FB P m t I I := fun _ _ _ => rfl
theorem FB.tr {I1 I2 : IT} {t : Nat} (h : FB P m t I I1) (h2 : FB P m t I1 I2) : FB P m t I I2 := fun b j hb => (h2 b j hb).trans (h b j hb)
theorem FB.u {t k : Nat} {w : Int} (hk : k = 34 ∨ k = 35 ∨ k = 36) : FB P m t I (up I (P m k) t w) := fun b j hb => by
  rw [up_apply, if_neg]
  rintro ⟨g1, g2⟩
  refine hb ⟨?_, g2⟩
  rcases hk with rfl | rfl | rfl
  · exact Or.inl g1
  · exact Or.inr (Or.inl g1)
  · exact Or.inr (Or.inr g1)
theorem FB.z {I' : IT} {t : Nat} (hT : XT tg P m) (h : FB P m t I I') : FrZ tg m I I' := by
  have hX := hT.xd
  refine ⟨fun b g1 g2 => ?_, fun j hj => h m j ?_⟩
  · funext j
    refine h b j ?_
    rintro ⟨z | z | z, -⟩
    · exact g2 (by rw [z, hT.2 34 (by decide)]; exact ⟨rfl, by decide⟩)
    · exact g2 (by rw [z, hT.2 35 (by decide)]; exact ⟨rfl, by decide⟩)
    · exact g2 (by rw [z, hT.2 36 (by decide)]; exact ⟨rfl, by decide⟩)
  · rintro ⟨z | z | z, -⟩
    · exact hX.1 34 (by decide) z.symm
    · exact hX.1 35 (by decide) z.symm
    · exact hX.1 36 (by decide) z.symm
theorem FB.em {I' : IT} {t : Nat} (hT : XT tg P m) (h : FB P m t I I') : I' m = I m := by
  have hX := hT.xd
  funext j
  refine h m j ?_
  rintro ⟨z | z | z, -⟩
  · exact hX.1 34 (by decide) z.symm
  · exact hX.1 35 (by decide) z.symm
  · exact hX.1 36 (by decide) z.symm
theorem BV.fb {I' : IT} {t : Nat} (h : BV tg P I m s v) (hs : s.ok) (hf : FB P m t I I') : BV tg P I' m s v := by
  have hX := h.1.1.xd
  refine ⟨h.1.z hs (hf.z h.1.1), fun e he => ?_⟩
  rw [hf (P m 33) e]
  · exact h.2 e he
  · rintro ⟨z | z | z, -⟩
    · exact hX.2 33 34 (by decide) (by decide) (by decide) z
    · exact hX.2 33 35 (by decide) (by decide) (by decide) z
    · exact hX.2 33 36 (by decide) (by decide) (by decide) z
theorem x_cnt_l {t p : Nat} (h : BV tg P I m s v) (hs : s.ok) : ∀ (d fuel k : Nat), d < fuel → k + d = s.ne → frE s v t p k = -1 → f_X8_counts_2 K P I fuel m t p (k : Int) = some (frE s v t p s.ne) := by
  have hne := hs.2.2.2.2.1
  intro d
  induction d with
  | zero =>
    intro fuel k hf hk hfr
    obtain ⟨n, rfl⟩ : ∃ n, fuel = n + 1 := ⟨fuel - 1, by omega⟩
    have hk : k = s.ne := hk
    unfold f_X8_counts_2
    rw [h.1.2.1.2.2.1, if_pos (by omega), ← hk, hfr]
  | succ d ih =>
    intro fuel k hf hk hfr
    obtain ⟨n, rfl⟩ : ∃ n, fuel = n + 1 := ⟨fuel - 1, by omega⟩
    have hkn : k < s.ne := by omega
    obtain ⟨⟨g1, g2, g3, g4⟩, -, -⟩ := h.1.2.2.2.2.1 k hkn
    have pass : ¬ ((s.en k).team = t ∧ (s.en k).prob = p ∧ v k = 0) → f_X8_counts_41 K P (f_X8_counts_2 K P I n) I m t p k = some (frE s v t p s.ne) := fun z => by
      unfold f_X8_counts_41
      rw [show wr ((k : Int) + 1) = ((k + 1 : Nat) : Int) by rw [wr_id (by omega) (by omega)]; rfl]
      exact ih n (k + 1) (by omega) (by omega) ((frE_o z).trans hfr)
    unfold f_X8_counts_2
    rw [h.1.2.1.2.2.1, if_neg (by omega), ck_t (by omega), Int.toNat_natCast, g1]
    by_cases c1 : (s.en k).team = t
    · rw [if_pos (by omega), ck_t (by omega), g2]
      by_cases c2 : (s.en k).prob = p
      · rw [if_pos (by omega), ck_t (by omega), h.2 k hkn]
        by_cases c3 : v k = 0
        · rw [if_pos c3, frE_hi hfr ⟨c1, c2, c3⟩ s.ne (by omega)]
        · rw [if_neg c3]; exact pass (fun z => c3 z.2.2)
      · rw [if_neg (by omega)]; exact pass (fun z => c2 z.2.1)
    · rw [if_neg (by omega)]; exact pass (fun z => c1 z.1)
theorem x_counts {t p : Nat} (h : BV tg P I m s v) (hs : s.ok) : f_X8_counts K P I m t p = some (frE s v t p s.ne) := x_cnt_l h hs s.ne FU 0 (by have := hs.2.2.2.2.1; unfold FU; omega) (by omega) rfl
/-- tries before the first right entry -/
theorem x_b49_l {t p c : Nat} {base : Int} {k2 : IT → Nat → Int → Option IT} {k31 : IT → Nat → Int → Int → Option IT} (hs : s.ok) (ht : t < 8) (hc : c < s.ne) (hfr : frE s v t p c = -1) (hb : 0 ≤ base ∧ base ≤ 67194) : ∀ (d fuel k : Nat) (I : IT), d < fuel → k + d = c → BV tg P I m s v → I (P m 35) t = base + 20 * trE s v t p k → ∃ I', f_X8_boards_49 K P k2 k31 fuel I m t p (c : Int) (k : Int) = f_X8_boards_109 K P k2 k31 I' m t p (c : Int) ∧ I' (P m 35) t = base + 20 * trE s v t p c ∧ (∀ q j, ¬ (q = P m 35 ∧ j = t) → I' q j = I q j) := by
  have hne := hs.2.2.2.2.1
  intro d
  induction d with
  | zero =>
    intro fuel k I hf hk h h35
    obtain ⟨n, rfl⟩ : ∃ n, fuel = n + 1 := ⟨fuel - 1, by omega⟩
    obtain rfl : k = c := hk
    unfold f_X8_boards_49
    rw [if_pos (by omega)]
    exact ⟨I, rfl, h35, fun _ _ _ => rfl⟩
  | succ d ih =>
    intro fuel k I hf hk h h35
    obtain ⟨n, rfl⟩ : ∃ n, fuel = n + 1 := ⟨fuel - 1, by omega⟩
    have hkn : k < s.ne := by omega
    obtain ⟨⟨g1, g2, g3, g4⟩, -, -⟩ := h.1.2.2.2.2.1 k hkn
    have hk0 := frE_lo c hfr k (by omega)
    have hk1 := frE_lo c hfr (k + 1) (by omega)
    have hn0 : ¬ ((s.en k).team = t ∧ (s.en k).prob = p ∧ v k = 0) := fun z => by
      have := frE_n hk0 z
      omega
    have htr := trE_rg (s := s) (v := v) (t := t) (p := p) k
    have go : ∀ w : Int, (w = 0 ∨ w = 20) → 20 * trE s v t p (k + 1) = 20 * trE s v t p k + w → ∃ I', f_X8_boards_101 K P k2 k31 (f_X8_boards_49 K P k2 k31 n) I m t p c k w (base + 20 * trE s v t p k) t (P m 35) = f_X8_boards_109 K P k2 k31 I' m t p (c : Int) ∧ I' (P m 35) t = base + 20 * trE s v t p c ∧ (∀ q j, ¬ (q = P m 35 ∧ j = t) → I' q j = I q j) := fun w hw hw2 => by
      unfold f_X8_boards_101
      rw [ck_t (by omega), bnd_e, Int.toNat_natCast, wr_id (x := base + 20 * trE s v t p k + w) (by omega) (by omega), show wr ((k : Int) + 1) = ((k + 1 : Nat) : Int) by rw [wr_id (by omega) (by omega)]; rfl]
      obtain ⟨I', u1, u2, u3⟩ := ih n (k + 1) (up I (P m 35) t (base + 20 * trE s v t p k + w)) (by omega) (by omega) (h.fb hs (FB.u (Or.inr (Or.inl rfl)))) (by rw [up_s]; omega)
      exact ⟨I', u1, u2, fun q j hq => by rw [u3 q j hq, up_apply, if_neg hq]⟩
    have pass : ¬ ((s.en k).team = t ∧ (s.en k).prob = p ∧ v k ≠ -1) → ∃ I', f_X8_boards_100 K P k2 k31 (f_X8_boards_49 K P k2 k31 n) I m t p c k (base + 20 * trE s v t p k) t (P m 35) = f_X8_boards_109 K P k2 k31 I' m t p (c : Int) ∧ I' (P m 35) t = base + 20 * trE s v t p c ∧ (∀ q j, ¬ (q = P m 35 ∧ j = t) → I' q j = I q j) := fun z => by
      unfold f_X8_boards_100
      exact go 0 (Or.inl rfl) (by rw [trE_o (fun y => z ⟨y.2.1, y.2.2.1, y.2.2.2.1⟩)]; omega)
    unfold f_X8_boards_49
    rw [if_neg (by omega), ck_t (by omega), ck_t (by omega), Int.toNat_natCast, Int.toNat_natCast, g1, h35]
    by_cases c1 : (s.en k).team = t
    · rw [if_pos (by omega), ck_t (by omega), g2]
      by_cases c2 : (s.en k).prob = p
      · rw [if_pos (by omega), ck_t (by omega), h.2 k hkn]
        by_cases c3 : v k = -1
        · rw [if_pos c3]; exact pass (fun z => z.2.2 c3)
        · rw [if_neg c3]
          exact go 20 (Or.inr rfl) (by rw [trE_n ⟨hk0, c1, c2, c3, fun z => hn0 ⟨c1, c2, z⟩⟩]; omega)
      · rw [if_neg (by omega)]; exact pass (fun z => c2 z.2.1)
    · rw [if_neg (by omega)]; exact pass (fun z => c1 z.1)
/-- one team's boards, its first problems -/
def PS (P : PT) (I : IT) (m : Nat) (s : Hl) (v : Nat → Int) (t n : Nat) : Prop := I (P m 34) t = Sg (bS s v t s.ne) n ∧ I (P m 35) t = Sg (bU s v t s.ne) n ∧ I (P m 36) t = Mx (bL s v t s.ne) n
theorem x_b31_l {t : Nat} {k2 : IT → Nat → Int → Option IT} (hs : s.ok) (ht : t < 8) : ∀ (d fuel p : Nat) (I : IT), d < fuel → p + d = s.np → BV tg P I m s v → PS P I m s v t p → ∃ I', f_X8_boards_31 K P k2 fuel I m t (p : Int) = k2 I' m ((t + 1 : Nat) : Int) ∧ PS P I' m s v t s.np ∧ FB P m t I I' := by
  have hne := hs.2.2.2.2.1
  have hnp := hs.2.2.1
  intro d
  induction d with
  | zero =>
    intro fuel p I hf hk h hp
    obtain ⟨n, rfl⟩ : ∃ n, fuel = n + 1 := ⟨fuel - 1, by omega⟩
    have hk : p = s.np := hk
    unfold f_X8_boards_31 f_X8_boards_181
    rw [h.1.2.1.2.1, if_pos (by omega), show wr ((t : Int) + 1) = ((t + 1 : Nat) : Int) by rw [wr_id (by omega) (by omega)]; rfl]
    rw [hk] at hp
    exact ⟨I, rfl, hp, FB.rf⟩
  | succ d ih =>
    intro fuel p I hf hk h hp
    obtain ⟨n, rfl⟩ : ∃ n, fuel = n + 1 := ⟨fuel - 1, by omega⟩
    have hX := h.1.1.xd
    obtain ⟨p1, p2, p3⟩ := hp
    have ew : wr ((p : Int) + 1) = ((p + 1 : Nat) : Int) := by rw [wr_id (by omega) (by omega)]; rfl
    have rS := Sg_rg (f := bS s v t s.ne) p (fun p => bS_rg p)
    have rU := Sg_rg (f := bU s v t s.ne) p (fun p => bU_rg hs (Nat.le_refl _) p)
    have rU1 := bU_rg hs (v := v) (t := t) (Nat.le_refl _) p
    have rU2 : Sg (bU s v t s.ne) p ≤ 67194 := by
      have : (p : Int) * 11199 ≤ 67194 := by omega
      omega
    have eS : Sg (bS s v t s.ne) (p + 1) = Sg (bS s v t s.ne) p + bS s v t s.ne p := rfl
    have eU : Sg (bU s v t s.ne) (p + 1) = Sg (bU s v t s.ne) p + bU s v t s.ne p := rfl
    have eL : Mx (bL s v t s.ne) (p + 1) = if bL s v t s.ne p ≤ Mx (bL s v t s.ne) p then Mx (bL s v t s.ne) p else bL s v t s.ne p := rfl
    unfold f_X8_boards_31
    rw [h.1.2.1.2.1, if_neg (by omega), x_counts h hs, bp_s]
    rcases frE_rg (s := s) (v := v) (t := t) (p := p) s.ne with c1 | c1
    · rw [c1]
      have b0 : bS s v t s.ne p = 0 := if_pos c1
      have b1 : bU s v t s.ne p = 0 := if_pos c1
      have b2 : bL s v t s.ne p = 0 := if_pos c1
      have rL := Mx_rg (f := bL s v t s.ne) (u := 9999) (by decide) p (fun p => bL_rg hs (Nat.le_refl _) p)
      show ∃ I', f_X8_boards_49 K P k2 (f_X8_boards_31 K P k2 n) (999 + 1) I m t p (-1) 0 = _ ∧ _
      unfold f_X8_boards_49 f_X8_boards_109 f_X8_boards_175
      rw [if_pos (by decide), if_pos rfl, ew]
      exact ih n (p + 1) I (by omega) (by omega) h ⟨by rw [eS, b0, p1]; omega, by rw [eU, b1, p2]; omega, by rw [eL, b2, p3, if_pos (by omega)]⟩
    · obtain ⟨c, hcc⟩ : ∃ c : Nat, frE s v t p s.ne = (c : Int) := ⟨(frE s v t p s.ne).toNat, by omega⟩
      obtain ⟨f1, f2, f3, f4⟩ := frE_inv s.ne hcc
      have b0 : bS s v t s.ne p = 1 := if_neg (by omega)
      have b1 : bU s v t s.ne p = (s.en c).whn + 20 * trE s v t p c := by
        unfold bU
        rw [if_neg (by omega), hcc, f4, Int.toNat_natCast]
      have b2 : bL s v t s.ne p = (s.en c).whn := by
        unfold bL
        rw [if_neg (by omega), hcc, Int.toNat_natCast]
      have hw := (hs.2.2.2.2.2.1 c f1).2.2.1
      have htr := trE_rg (s := s) (v := v) (t := t) (p := p) c
      rw [hcc]
      obtain ⟨I1, u1, u2, u3⟩ := x_b49_l (K := K) (k2 := k2) (k31 := f_X8_boards_31 K P k2 n) (t := t) (p := p) (c := c) (base := Sg (bU s v t s.ne) p) hs ht f1 f2 ⟨rU.1, rU2⟩ c FU 0 I (by unfold FU; omega) (by omega) h (by rw [p2, show trE s v t p 0 = 0 from rfl]; omega)
      have F1 : FB P m t I I1 := fun q j hq => u3 q j (fun z => hq ⟨Or.inr (Or.inl z.1), z.2⟩)
      have H1 := h.fb hs F1
      rw [show f_X8_boards_49 K P k2 (f_X8_boards_31 K P k2 n) FU I m t p (c : Int) 0 = _ from u1]
      have e34 : I1 (P m 34) t = Sg (bS s v t s.ne) p := by rw [u3 _ _ (fun z => hX.2 34 35 (by decide) (by decide) (by decide) z.1)]; exact p1
      have e36 : I1 (P m 36) t = Mx (bL s v t s.ne) p := by rw [u3 _ _ (fun z => hX.2 36 35 (by decide) (by decide) (by decide) z.1)]; exact p3
      have e16 : I1 (P m 16) c = (s.en c).whn := (H1.1.2.2.2.2.1 c f1).1.2.2.1
      have d34 := hX.2 35 34 (by decide) (by decide) (by decide)
      have d35 := hX.2 16 34 (by decide) (by decide) (by decide)
      have d36 := hX.2 16 35 (by decide) (by decide) (by decide)
      have d37 := hX.2 36 34 (by decide) (by decide) (by decide)
      have d38 := hX.2 36 35 (by decide) (by decide) (by decide)
      have d39 := hX.2 34 36 (by decide) (by decide) (by decide)
      have d40 := hX.2 35 36 (by decide) (by decide) (by decide)
      unfold f_X8_boards_109
      rw [if_neg (by omega), ck_t (by omega), ck_t (by omega), Int.toNat_natCast, Int.toNat_natCast, e34, wr_id (x := Sg (bS s v t s.ne) p + 1) (by omega) (by omega), bnd_e, ck_t (by omega), ck_t (by omega), ck_t (by omega), up_b d34, up_b d35, u2, e16, wr_id (x := Sg (bU s v t s.ne) p + 20 * trE s v t p c + (s.en c).whn) (by omega) (by omega), bnd_e, ck_t (by omega), ck_t (by omega), up_b d36, up_b d35, e16, up_b d38, up_b d37, e36]
      have fin : ∀ w : Int, w = Mx (bL s v t s.ne) (p + 1) → ∃ I', f_X8_boards_174 K P k2 (f_X8_boards_31 K P k2 n) (up (up I1 (P m 34) t (Sg (bS s v t s.ne) p + 1)) (P m 35) t (Sg (bU s v t s.ne) p + 20 * trE s v t p c + (s.en c).whn)) m t p w t (P m 36) = k2 I' m ((t + 1 : Nat) : Int) ∧ PS P I' m s v t s.np ∧ FB P m t I I' := fun w hw2 => by
        unfold f_X8_boards_174 f_X8_boards_175
        rw [ck_t (by omega), bnd_e, Int.toNat_natCast, ew]
        have F2 : FB P m t I (up (up (up I1 (P m 34) t (Sg (bS s v t s.ne) p + 1)) (P m 35) t (Sg (bU s v t s.ne) p + 20 * trE s v t p c + (s.en c).whn)) (P m 36) t w) := F1.tr ((FB.u (Or.inl rfl)).tr ((FB.u (Or.inr (Or.inl rfl))).tr (FB.u (Or.inr (Or.inr rfl)))))
        obtain ⟨I', k1, k3, k4⟩ := ih n (p + 1) _ (by omega) (by omega) (h.fb hs F2) ⟨by rw [up_b d39, up_b (Ne.symm d34), up_s, eS, b0], by rw [up_b d40, up_s, eU, b1]; omega, by rw [up_s, hw2]⟩
        exact ⟨I', k1, k3, F2.tr k4⟩
      by_cases z : (s.en c).whn ≤ Mx (bL s v t s.ne) p
      · rw [if_pos z, ck_t (by omega)]
        exact fin _ (by rw [eL, b2, if_pos z])
      · rw [if_neg z, ck_t (by omega)]
        exact fin _ (by rw [eL, b2, if_neg z])
theorem ext6 {t : Nat} (hs : s.ok) : Sg (bS s v t s.ne) 6 = Sg (bS s v t s.ne) s.np ∧ Sg (bU s v t s.ne) 6 = Sg (bU s v t s.ne) s.np ∧ Mx (bL s v t s.ne) 6 = Mx (bL s v t s.ne) s.np := by
  have hnp := hs.2.2.1
  have no : ∀ p, s.np ≤ p → ∀ k, k ≤ s.ne → frE s v t p k = -1 := fun p hp k => by
    induction k with
    | zero => exact fun _ => rfl
    | succ k ih =>
      intro hk
      rw [frE_o (fun z => by have := (hs.2.2.2.2.2.1 k (by omega)).2.1; omega)]
      exact ih (by omega)
  have e : s.np + (6 - s.np) = 6 := by omega
  have rL := Mx_rg (f := bL s v t s.ne) (u := 9999) (by decide) s.np (fun p => bL_rg hs (Nat.le_refl _) p)
  have h1 := Sg_ext (f := bS s v t s.ne) (n := s.np) (6 - s.np) (fun p hp => if_pos (no p hp _ (Nat.le_refl _)))
  have h2 := Sg_ext (f := bU s v t s.ne) (n := s.np) (6 - s.np) (fun p hp => if_pos (no p hp _ (Nat.le_refl _)))
  have h3 := Mx_ext (f := bL s v t s.ne) (n := s.np) rL.1 (6 - s.np) (fun p hp => if_pos (no p hp _ (Nat.le_refl _)))
  rw [e] at h1 h2 h3
  exact ⟨h1, h2, h3⟩
theorem x_b2_l (hs : s.ok) : ∀ (d fuel t : Nat) (I : IT), d < fuel → t + d = 8 → BV tg P I m s v → (∀ u, u < t → PS P I m s v u s.np) → ∃ I', f_X8_boards_2 K P fuel I m (t : Int) = some I' ∧ (∀ u, u < 8 → PS P I' m s v u s.np) ∧ BV tg P I' m s v ∧ FrZ tg m I I' ∧ I' m = I m := by
  have hnp := hs.2.2.1
  intro d
  induction d with
  | zero =>
    intro fuel t I hf hk h hp
    obtain ⟨n, rfl⟩ : ∃ n, fuel = n + 1 := ⟨fuel - 1, by omega⟩
    obtain rfl : t = 8 := by omega
    unfold f_X8_boards_2
    rw [if_pos (by decide)]
    exact ⟨I, rfl, hp, h, FrZ.rf, rfl⟩
  | succ d ih =>
    intro fuel t I hf hk h hp
    obtain ⟨n, rfl⟩ : ∃ n, fuel = n + 1 := ⟨fuel - 1, by omega⟩
    have hX := h.1.1.xd
    have d34 := hX.2 34 35 (by decide) (by decide) (by decide)
    have d35 := hX.2 34 36 (by decide) (by decide) (by decide)
    have d36 := hX.2 35 36 (by decide) (by decide) (by decide)
    unfold f_X8_boards_2
    rw [if_neg (by omega), ck_t (by omega), bnd_e, ck_t (by omega), bnd_e, ck_t (by omega), bnd_e, Int.toNat_natCast]
    have F0 : FB P m t I (up (up (up I (P m 34) t 0) (P m 35) t 0) (P m 36) t 0) := (FB.u (Or.inl rfl)).tr ((FB.u (Or.inr (Or.inl rfl))).tr (FB.u (Or.inr (Or.inr rfl))))
    obtain ⟨I1, u1, u2, u3⟩ := x_b31_l (K := K) (k2 := f_X8_boards_2 K P n) (t := t) hs (by omega) s.np FU 0 _ (by unfold FU; omega) (by omega) (h.fb hs F0) ⟨by rw [up_b d35, up_b d34, up_s]; rfl, by rw [up_b d36, up_s]; rfl, by rw [up_s]; rfl⟩
    rw [show f_X8_boards_31 K P (f_X8_boards_2 K P n) FU (up (up (up I (P m 34) t 0) (P m 35) t 0) (P m 36) t 0) m t 0 = _ from u1]
    have F1 := F0.tr u3
    have H1 := h.fb hs F1
    obtain ⟨I', k1, k2, k3, k4, k5⟩ := ih n (t + 1) I1 (by omega) (by omega) H1 (fun u hu => by
      by_cases z : u = t
      · rw [z]; exact u2
      · obtain ⟨a1, a2, a3⟩ := hp u (by omega)
        exact ⟨by rw [F1 _ _ (fun y => z y.2)]; exact a1, by rw [F1 _ _ (fun y => z y.2)]; exact a2, by rw [F1 _ _ (fun y => z y.2)]; exact a3⟩)
    exact ⟨I', k1, k2, k3, (F1.z h.1.1).tr k4, k5.trans (F1.em h.1.1)⟩
theorem x_boards (h : BV tg P I m s v) (hs : s.ok) : ∃ I', f_X8_boards K P I m = some I' ∧ St3 P I' (P m 34) (P m 35) (P m 36) (brS s v) (brU s v) (brL s v) ∧ BV tg P I' m s v ∧ FrZ tg m I I' ∧ I' m = I m := by
  obtain ⟨I', k1, k2, k3, k4, k5⟩ := x_b2_l (K := K) hs 8 FU 0 I (by decide) (by decide) h (fun u hu => absurd hu (Nat.not_lt_zero _))
  refine ⟨I', k1, fun t ht => ?_, k3, k4, k5⟩
  obtain ⟨a1, a2, a3⟩ := k2 t ht
  obtain ⟨b1, b2, b3⟩ := ext6 (s := s) (v := v) (t := t) hs
  exact ⟨a1.trans b1.symm, a2.trans b2.symm, a3.trans b3.symm⟩
theorem x_isLate {e : Nat} (h : MH tg P I m s) (hs : s.ok) (he : e < s.ne) : f_X8_isLate K P I m e = some (if s.frz ≠ -1 ∧ s.frz ≤ (s.en e).whn then 1 else 0) := by
  have hne := hs.2.2.2.2.1
  unfold f_X8_isLate
  rw [h.2.1.2.2.2]
  by_cases c1 : s.frz = -1
  · rw [if_pos c1, if_neg (fun z => z.1 c1)]
  · rw [if_neg c1, ck_t (by omega), Int.toNat_natCast, (h.2.2.2.2.1 e he).1.2.2.1]
    by_cases c2 : (s.en e).whn < s.frz
    · rw [if_pos c2, if_neg (fun z => by have := z.2; omega)]
    · rw [if_neg c2, if_pos ⟨c1, by omega⟩]
theorem x_tel_l {fz : Int} (hs : s.ok) : ∀ (d fuel k : Nat) (I : IT), d < fuel → k + d = s.ne → MH tg P I m s → (∀ e, e < k → I (P m 33) e = vT s fz e) → ∃ I', f_X8_tells_2 K P fuel I m fz (k : Int) = some I' ∧ St3 P I' (P m 34) (P m 35) (P m 36) (brS s (vT s fz)) (brU s (vT s fz)) (brL s (vT s fz)) ∧ BV tg P I' m s (vT s fz) ∧ FrZ tg m I I' ∧ I' m = I m := by
  have hne := hs.2.2.2.2.1
  have hnp := hs.2.2.1
  intro d
  induction d with
  | zero =>
    intro fuel k I hf hk h hv
    obtain ⟨n, rfl⟩ : ∃ n, fuel = n + 1 := ⟨fuel - 1, by omega⟩
    have hk : k = s.ne := hk
    rw [hk] at hv
    obtain ⟨I', k1, k2, k3, k4, k5⟩ := x_boards (K := K) (v := vT s fz) ⟨h, hv⟩ hs
    unfold f_X8_tells_2
    rw [h.2.1.2.2.1, if_pos (by omega), k1, bp_s]
    exact ⟨I', rfl, k2, k3, k4, k5⟩
  | succ d ih =>
    intro fuel k I hf hk h hv
    obtain ⟨n, rfl⟩ : ∃ n, fuel = n + 1 := ⟨fuel - 1, by omega⟩
    have hkn : k < s.ne := by omega
    have hn := hs.2.2.2.2.2.1 k hkn
    have htm := hn.1
    have hpr := hn.2.1
    obtain ⟨⟨g1, g2, g3, g4⟩, -, -⟩ := h.2.2.2.2.1 k hkn
    have go : ∀ w : Int, w = vT s fz k → ∃ I', f_X8_tells_71 K P (f_X8_tells_2 K P n) I m fz k w k (P m 33) = some I' ∧ St3 P I' (P m 34) (P m 35) (P m 36) (brS s (vT s fz)) (brU s (vT s fz)) (brL s (vT s fz)) ∧ BV tg P I' m s (vT s fz) ∧ FrZ tg m I I' ∧ I' m = I m := fun w hw => by
      unfold f_X8_tells_71
      rw [ck_t (by omega), bnd_e, Int.toNat_natCast, show wr ((k : Int) + 1) = ((k + 1 : Nat) : Int) by rw [wr_id (by omega) (by omega)]; rfl]
      have f1 : FrZ tg m I (up I (P m 33) k w) := FrZ.ua h.1 (by decide) (by decide)
      obtain ⟨I', k1, k2, k3, k4, k5⟩ := ih n (k + 1) (up I (P m 33) k w) (by omega) (by omega) (h.z hs f1) (fun e he => by
        rw [up_apply]
        by_cases z : e = k
        · rw [if_pos ⟨rfl, z⟩, z, hw]
        · rw [if_neg (fun y => z y.2)]; exact hv e (by omega))
      exact ⟨I', k1, k2, k3, f1.tr k4, k5.trans (up_b (Ne.symm (h.1.xd.1 33 (by decide))))⟩
    have shown : ¬ (fz ≠ 0 ∧ hidE s k) → ∃ I', f_X8_tells_50 K P (f_X8_tells_2 K P n) I m fz k = some I' ∧ St3 P I' (P m 34) (P m 35) (P m 36) (brS s (vT s fz)) (brU s (vT s fz)) (brL s (vT s fz)) ∧ BV tg P I' m s (vT s fz) ∧ FrZ tg m I I' ∧ I' m = I m := fun z => by
      unfold f_X8_tells_50 f_X8_tells_51
      rw [if_pos rfl, ck_t (by omega), Int.toNat_natCast, g4]
      exact go _ (if_neg z).symm
    unfold f_X8_tells_2
    rw [h.2.1.2.2.1, if_neg (by omega)]
    by_cases c0 : fz = 0
    · rw [if_pos c0]; exact shown (fun z => z.1 c0)
    · rw [if_neg c0, x_isLate h hs hkn, bp_s]
      by_cases c1 : s.frz ≠ -1 ∧ s.frz ≤ (s.en k).whn
      · have ep : wr (wr (6 * ((s.en k).team : Int)) + ((s.en k).prob : Int)) = ((6 * (s.en k).team + (s.en k).prob : Nat) : Int) := by rw [wr_id (x := 6 * ((s.en k).team : Int)) (by omega) (by omega), wr_id (by omega) (by omega)]; omega
        rw [if_pos c1, if_neg (by decide), ck_t (by omega), ck_t (by omega), Int.toNat_natCast, g1, g2, ep, ck_t (by omega), Int.toNat_natCast, h.2.2.2.2.2.1.2.2 _ (by omega)]
        by_cases c2 : s.rev (6 * (s.en k).team + (s.en k).prob) = 0
        · rw [if_pos c2]
          unfold f_X8_tells_51
          rw [if_neg (by decide)]
          exact go (-1) (if_pos ⟨c0, c1.1, c1.2, c2⟩).symm
        · rw [if_neg c2]; exact shown (fun z => c2 z.2.2.2)
      · rw [if_neg c1, if_pos rfl]; exact shown (fun z => c1 ⟨z.2.1, z.2.2.1⟩)
theorem x_tells {fz : Int} (h : MH tg P I m s) (hs : s.ok) : ∃ I', f_X8_tells K P I m fz = some I' ∧ St3 P I' (P m 34) (P m 35) (P m 36) (brS s (vT s fz)) (brU s (vT s fz)) (brL s (vT s fz)) ∧ BV tg P I' m s (vT s fz) ∧ FrZ tg m I I' ∧ I' m = I m := x_tel_l hs s.ne FU 0 I (by have := hs.2.2.2.2.1; unfold FU; omega) (by omega) h (fun e he => absurd he (Nat.not_lt_zero _))
theorem x_isAhead {S U L : Nat → Int} {a b : Nat} (h : St3 P I (P m 34) (P m 35) (P m 36) S U L) (ha : a < 8) (hb : b < 8) : f_X8_isAhead K P I m a b = some (ahd S U L a b) := by
  obtain ⟨a1, a2, a3⟩ := h a ha
  obtain ⟨b1, b2, b3⟩ := h b hb
  have ca : ∀ {α : Type} {z : Option α}, ck (0 ≤ (a : Int) ∧ (a : Int) < 8) z = z := fun {α} {z} => ck_t (by omega)
  have cb : ∀ {α : Type} {z : Option α}, ck (0 ≤ (b : Int) ∧ (b : Int) < 8) z = z := fun {α} {z} => ck_t (by omega)
  unfold f_X8_isAhead ahd
  simp only [ca, cb]
  rw [Int.toNat_natCast, Int.toNat_natCast, a1, a2, a3, b1, b2, b3]
  by_cases c1 : S a = S b
  · rw [if_pos c1, if_pos c1]
    by_cases c2 : U a = U b
    · rw [if_pos c2, if_pos c2]
      by_cases c3 : L a = L b
      · rw [if_pos c3, if_pos c3]
        by_cases c4 : b ≤ a
        · rw [if_pos (by omega), if_pos c4]
        · rw [if_neg (by omega), if_neg c4]
      · rw [if_neg c3, if_neg c3]
        by_cases c4 : L b ≤ L a
        · rw [if_pos c4, if_pos c4]
        · rw [if_neg c4, if_neg c4]
    · rw [if_neg c2, if_neg c2]
      by_cases c4 : U b ≤ U a
      · rw [if_pos c4, if_pos c4]
      · rw [if_neg c4, if_neg c4]
  · rw [if_neg c1, if_neg c1]
    by_cases c4 : S a ≤ S b
    · rw [if_pos c4, if_pos c4]
    · rw [if_neg c4, if_neg c4]
theorem x_plc_l {S U L : Nat → Int} {t : Nat} (h : St3 P I (P m 34) (P m 35) (P m 36) S U L) (ht : t < 8) : ∀ (d fuel k : Nat), d < fuel → k + d = 8 → f_X8_placeOf_4 K P I fuel m t (plc S U L t k) (k : Int) = some (plc S U L t 8) := by
  intro d
  induction d with
  | zero =>
    intro fuel k hf hk
    obtain ⟨n, rfl⟩ : ∃ n, fuel = n + 1 := ⟨fuel - 1, by omega⟩
    obtain rfl : k = 8 := by omega
    unfold f_X8_placeOf_4
    rw [if_pos (by decide)]
  | succ d ih =>
    intro fuel k hf hk
    obtain ⟨n, rfl⟩ : ∃ n, fuel = n + 1 := ⟨fuel - 1, by omega⟩
    have h1 := plc_rg (S := S) (U := U) (L := L) (t := t) k
    have e1 : plc S U L t (k + 1) = plc S U L t k + ahd S U L k t := rfl
    have ih2 := ih n (k + 1) (by omega) (by omega)
    unfold f_X8_placeOf_4 f_X8_placeOf_29 f_X8_placeOf_30
    rw [if_neg (by omega), show wr ((k : Int) + 1) = ((k + 1 : Nat) : Int) by rw [wr_id (by omega) (by omega)]; rfl, wr_id (x := plc S U L t k + 1) (by omega) (by omega), Int.add_zero, wr_id (x := plc S U L t k) (by omega) (by omega)]
    by_cases c : k = t
    · rw [if_pos (by omega)]
      rw [e1, show ahd S U L k t = 0 by rw [c]; exact ahd_rf, Int.add_zero] at ih2
      exact ih2
    · rw [if_neg (by omega), x_isAhead h (by omega) ht, bp_s]
      rcases ahd01 (S := S) (U := U) (L := L) (a := k) (b := t) with z | z
      · rw [if_pos z]
        rw [e1, z, Int.add_zero] at ih2
        exact ih2
      · rw [if_neg (by omega)]
        rw [e1, z] at ih2
        exact ih2
theorem x_placeOf {S U L : Nat → Int} {t : Nat} (h : St3 P I (P m 34) (P m 35) (P m 36) S U L) (ht : t < 8) : f_X8_placeOf K P I m t = some (plc S U L t 8) := x_plc_l h ht 8 FU 0 (by decide) (by decide)
theorem x_board {t fz w : Int} (h : MH tg P I m s) (hs : s.ok) : MOut tg P m [3, 1] I (f_X8_board K P I m t fz w) (boardS s t fz w) := by
  have bad : ∀ v2 : Int, 0 < v2 → f_X8_board_26 K P I m t fz w v2 m = some (0, up I m 38 v2) := fun v2 hv => by
    unfold f_X8_board_26
    rw [bnd_e, up_s, if_neg (by omega)]
  unfold f_X8_board boardS
  rw [x_isT, bp_s]
  by_cases c1 : 0 ≤ t ∧ t < 8
  · rw [if_pos c1, if_neg (by decide), if_pos c1, x_isIn, bp_s]
    by_cases c2 : 0 ≤ w ∧ w ≤ 4
    · rw [if_pos c2, if_neg (by decide), if_pos c2]
      obtain ⟨h1, f1⟩ := h.thr hs (v := 0)
      have e38 : up I m 38 0 m 38 = 0 := up_s _ _ _ _
      unfold f_X8_board_26
      rw [bnd_e]
      generalize up I m 38 0 = I1 at h1 f1 e38 ⊢
      obtain ⟨I', k1, k2, ⟨k3, -⟩, k4, k5⟩ := x_tells (K := K) (fz := fz) h1 hs
      have e : t = ((t.toNat : Nat) : Int) := by omega
      have k6 := k2 t.toNat (by omega)
      have k7 := x_placeOf (K := K) k2 (t := t.toNat) (by omega)
      rw [← e] at k7
      rw [e38, if_pos (by decide), k1, bp_s]
      refine ⟨_, I', ?_, fun _ => rfl, by rw [k5]; exact e38, k3, f1.tr (k4.ft h.1)⟩
      by_cases w0 : w = 0
      · rw [if_pos w0, if_neg (by omega), if_pos w0, k7, bp_s]; rfl
      by_cases w1 : w = 1
      · rw [if_neg w0, if_pos w1, if_neg (by omega), if_neg w0, if_pos w1, ck_t c1, k6.1]
      by_cases w2 : w = 2
      · rw [if_neg w0, if_neg w1, if_pos w2, if_neg (by omega), if_neg w0, if_neg w1, if_pos w2, ck_t c1, k6.2.1]
      by_cases w3 : w = 3
      · rw [if_neg w0, if_neg w1, if_neg w2, if_pos w3, if_neg (by omega), if_neg w0, if_neg w1, if_neg w2, ck_t c1, k6.2.2]
      · rw [if_neg w0, if_neg w1, if_neg w2, if_neg w3, if_pos (by omega), ck_t c1, k3.2.2.2.2.2.1.2.1 _ (by omega)]
    · rw [if_neg c2, if_pos rfl, if_neg c2, bad 2 (by decide)]
      exact MOut.bad (by decide) rfl h hs rfl
  · rw [if_neg c1, if_pos rfl, if_neg c1, bad 1 (by decide)]
    exact MOut.bad (by decide) rfl h hs rfl
end BO3
