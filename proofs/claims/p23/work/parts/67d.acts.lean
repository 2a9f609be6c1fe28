/-! WHAT THE LAW'S DRAWN CALLS COME TO -/
/-- versions: none below 0, none above n -/
def LV (S : Hl) (n : Nat) : Prop := ∀ i, i < S.np → 0 ≤ (S.pb i).ver ∧ (S.pb i).ver ≤ (n : Int)
theorem LV.mono {S : Hl} {n n2 : Nat} (h : LV S n) (hn : n ≤ n2) : LV S n2 := fun i hi => by have := h i hi; omega
theorem LV.same {S T : Hl} {n : Nat} (h : LV S n) (h1 : T.np = S.np) (h2 : T.pb = S.pb) : LV T (n + 1) := fun i hi => by
  rw [h2]
  have := h i (by omega)
  omega
theorem LV.up {S T : Hl} {n p : Nat} {b : Pb} (h : LV S n) (hn : n ≤ 1000) (hp : p < S.np) (h1 : T.np = S.np) (h2 : T.pb = updf S.pb p b) (hb : b.ver = wr ((S.pb p).ver + 1)) : LV T (n + 1) := fun i hi => by
  rw [h2]
  unfold updf
  by_cases z : i = p
  · rw [if_pos z, hb]
    have := h p hp
    rw [wr_id (by omega) (by omega)]
    omega
  · rw [if_neg z]
    have := h i (by omega)
    omega
section TA
variable {S : Hl} {n : Nat}
theorem t_problem {a b : Int} (ha : 1 ≤ a ∧ a ≤ 500) (hb : 0 ≤ b ∧ b ≤ 1) : ∃ T : Hl, (outI (actQ S 3 a b 0) = (if S.np < 6 then (S.np : Int) else -7000003) ∧ (actQ S 3 a b 0).2.2 = T) ∧ (T.np = S.np + (if S.np < 6 then 1 else 0) ∧ T.ne = S.ne ∧ T.min = S.min) ∧ (LV S n → LV T (n + 1)) := by
  have e : actQ S 3 a b 0 = problemS S a b := rfl
  rw [e]
  unfold problemS
  rw [if_pos ha, if_pos hb]
  by_cases c : S.np < 6
  · rw [if_pos c, if_pos c, if_pos c]
    refine ⟨_, ⟨rfl, rfl⟩, ⟨rfl, rfl, rfl⟩, fun h i hi => ?_⟩
    have hi : i < S.np + 1 := hi
    show 0 ≤ (updf S.pb S.np (newPb S a.toNat b) i).ver ∧ (updf S.pb S.np (newPb S a.toNat b) i).ver ≤ ((n + 1 : Nat) : Int)
    unfold updf
    by_cases z : i = S.np
    · rw [if_pos z]
      exact ⟨Int.le_refl _, show (0 : Int) ≤ ((n + 1 : Nat) : Int) by omega⟩
    · rw [if_neg z]
      have := h i (by omega)
      omega
  · rw [if_neg c, if_neg c, if_neg c]
    exact ⟨S, ⟨rfl, rfl⟩, ⟨rfl, rfl, rfl⟩, fun h => h.mono (Nat.le_succ n)⟩
theorem t_test {p g : Int} (hok : S.ok) (hp : 0 ≤ p ∧ p < (S.np : Int)) (hg : 0 ≤ g ∧ g < 4) (hn : n ≤ 1000) : ∃ (v : Int) (T : Hl), (outI (actQ S 4 p g 0) = v ∧ (actQ S 4 p g 0).2.2 = T) ∧ (v = -7000003 ∨ (0 ≤ v ∧ v ≤ 11)) ∧ kp S T ∧ (LV S n → LV T (n + 1)) := by
  have e : actQ S 4 p g 0 = testS S p g := rfl
  rw [e]
  unfold testS
  rw [if_pos hp, if_pos hg]
  by_cases c : (S.pb p.toNat).nt < 12
  · rw [if_pos c]
    by_cases c2 : (runA (S.pb p.toNat).sol S.din 500).e = 0
    · rw [if_pos c2]
      exact ⟨_, _, ⟨rfl, rfl⟩, Or.inr ⟨show (0 : Int) ≤ ((S.pb p.toNat).nt : Int) by omega, show ((S.pb p.toNat).nt : Int) ≤ 11 by omega⟩, ⟨⟨rfl, rfl⟩, rfl⟩, fun h => h.up (p := p.toNat) (b := addTr (S.pb p.toNat) S.din g) hn (by omega) rfl rfl rfl⟩
    · rw [if_neg c2]
      exact ⟨_, _, ⟨rfl, rfl⟩, Or.inl rfl, ⟨⟨rfl, rfl⟩, rfl⟩, fun h => h.mono (Nat.le_succ n)⟩
  · rw [if_neg c]
    exact ⟨_, _, ⟨rfl, rfl⟩, Or.inl rfl, ⟨⟨rfl, rfl⟩, rfl⟩, fun h => h.mono (Nat.le_succ n)⟩
theorem t_enter {t p : Int} (ht : 0 ≤ t ∧ t < 8) (hp : 0 ≤ p ∧ p < (S.np : Int)) : ∃ T : Hl, (outI (actQ S 8 t p 0) = (if S.ne < 60 then (S.ne : Int) else -7000003) ∧ (actQ S 8 t p 0).2.2 = T) ∧ (T.np = S.np ∧ T.ne = S.ne + (if S.ne < 60 then 1 else 0) ∧ T.min = S.min) ∧ (LV S n → LV T (n + 1)) := by
  have e : actQ S 8 t p 0 = enterS S t p := rfl
  rw [e]
  unfold enterS
  rw [if_pos ht, if_pos hp]
  by_cases c : S.ne < 60
  · rw [if_pos c, if_pos c, if_pos c]
    exact ⟨_, ⟨rfl, rfl⟩, ⟨rfl, rfl, rfl⟩, fun h => h.same rfl rfl⟩
  · rw [if_neg c, if_neg c, if_neg c]
    exact ⟨S, ⟨rfl, rfl⟩, ⟨rfl, rfl, rfl⟩, fun h => h.mono (Nat.le_succ n)⟩
theorem t_cv {s : Hl} {p : Nat} {c : Int} (h : LV s n) (hn : n ≤ 1000) (hp : p < s.np) : outI (cvS s p c) ≠ 0 ∧ kp s (cvS s p c).2.2 ∧ LV (cvS s p c).2.2 (n + 1) := by
  refine ⟨?_, ⟨⟨rfl, rfl⟩, rfl⟩, h.up hn hp rfl rfl rfl⟩
  have := h p hp
  show wr ((s.pb p).ver + 1) ≠ 0
  rw [wr_id (by omega) (by omega)]
  omega
theorem t_mend {p c : Int} (hp : 0 ≤ p ∧ p < (S.np : Int)) (hc : 0 ≤ c ∧ c ≤ 1) (hn : n ≤ 1000) (hL : LV S n) : ∃ (v : Int) (T : Hl), (outI (actQ S 6 p c 0) = v ∧ (actQ S 6 p c 0).2.2 = T) ∧ v ≠ 0 ∧ kp S T ∧ LV T (n + 1) := by
  have e : actQ S 6 p c 0 = mendS S p c := rfl
  rw [e]
  unfold mendS
  rw [if_pos hp, if_pos hc]
  by_cases c1 : S.desk.n = 0
  · rw [if_pos c1]
    obtain ⟨h1, h2, h3⟩ := t_cv (c := c) hL hn (p := p.toNat) (by omega)
    exact ⟨_, _, ⟨rfl, rfl⟩, h1, h2, h3⟩
  · rw [if_neg c1]
    by_cases c2 : ansAll (S.pb p.toNat) S.desk 0
    · rw [if_pos c2]
      have hL2 : LV (newSol S p.toNat) n := fun i hi => by
        have hi : i < S.np := hi
        show 0 ≤ (updf S.pb p.toNat ((S.pb p.toNat).sSol S.desk) i).ver ∧ (updf S.pb p.toNat ((S.pb p.toNat).sSol S.desk) i).ver ≤ (n : Int)
        unfold updf
        by_cases z : i = p.toNat
        · rw [if_pos z]
          exact hL p.toNat (by omega)
        · rw [if_neg z]
          exact hL i hi
      obtain ⟨h1, h2, h3⟩ := t_cv (c := c) hL2 hn (p := p.toNat) (show p.toNat < S.np by omega)
      exact ⟨_, _, ⟨rfl, rfl⟩, h1, h2, h3⟩
    · rw [if_neg c2]
      exact ⟨_, _, ⟨rfl, rfl⟩, show (-7000003 : Int) ≠ 0 by decide, ⟨⟨rfl, rfl⟩, rfl⟩, hL.mono (Nat.le_succ n)⟩
theorem t_hack {t e : Int} (hok : S.ok) (ht : 0 ≤ t ∧ t < 8) (he : 0 ≤ e ∧ e < (S.ne : Int)) (hn : n ≤ 1000) (hL : LV S n) : ∃ (v : Int) (T : Hl), (outI (actQ S 16 t e 0) = v ∧ (actQ S 16 t e 0).2.2 = T) ∧ v ≤ 1 ∧ kp S T ∧ LV T (n + 1) := by
  have eq : actQ S 16 t e 0 = hackZ S t e := rfl
  rw [eq]
  unfold hackZ hackS
  rw [if_pos ht, if_pos he]
  unfold hackIn
  by_cases c : hackC S t.toNat e.toNat
  · rw [if_pos c]
    by_cases c2 : hackV S e.toNat = 0
    · rw [if_pos c2]
      exact ⟨_, _, ⟨rfl, rfl⟩, show (0 : Int) ≤ 1 by decide, ⟨⟨rfl, rfl⟩, rfl⟩, hL.same rfl rfl⟩
    · rw [if_neg c2]
      have hp := (hok.2.2.2.2.2.1 e.toNat (by omega)).2.1
      exact ⟨_, _, ⟨rfl, rfl⟩, show (1 : Int) ≤ 1 by decide, ⟨⟨rfl, rfl⟩, rfl⟩, hL.up (p := (S.en e.toNat).prob) (b := addTr (S.pb (S.en e.toNat).prob) S.din 3) hn hp rfl rfl rfl⟩
  · rw [if_neg c]
    exact ⟨_, _, ⟨rfl, rfl⟩, show (-7000003 : Int) ≤ 1 by decide, ⟨⟨rfl, rfl⟩, rfl⟩, hL.mono (Nat.le_succ n)⟩
theorem t_freeze {m : Int} (hm : -1 ≤ m ∧ m ≤ 9999) : ∃ T : Hl, (outI (actQ S 13 m 0 0) = 1 ∧ (actQ S 13 m 0 0).2.2 = T) ∧ kp S T ∧ T.pb = S.pb := by
  have e : actQ S 13 m 0 0 = frzQ S m := rfl
  have e2 : freezeS S m = (0, 0, S.sFrz m (fun _ => 0)) := if_pos hm
  rw [e]
  unfold frzQ
  rw [e2]
  exact ⟨_, ⟨rfl, rfl⟩, ⟨⟨rfl, rfl⟩, rfl⟩, rfl⟩
theorem t_reveal (hok : S.ok) : ∃ (v : Int) (T : Hl), revealS S = (0, v, T) ∧ -1 ≤ v ∧ kp S T ∧ T.pb = S.pb := by
  unfold revealS
  by_cases c : lsR S = -1
  · rw [if_pos c]
    exact ⟨_, _, rfl, Int.le_refl _, ⟨⟨rfl, rfl⟩, rfl⟩, rfl⟩
  · rw [if_neg c]
    have h1 : lsR S = -1 ∨ (0 ≤ lsR S ∧ lsR S < ((8 : Nat) : Int) ∧ lhE S (lsR S).toNat S.ne ≠ -1) := lsE_rg 8
    have h2 := lhE_rg hok (t := (lsR S).toNat) S.ne (Nat.le_refl _)
    exact ⟨_, _, rfl, by omega, ⟨⟨rfl, rfl⟩, rfl⟩, rfl⟩
theorem t_pass {v : Int} (hv : 1 ≤ v ∧ v ≤ 300) (hm : S.min + v ≤ 9999) : passS S v = (0, S.min + v, S.sMin (S.min + v)) := by
  unfold passS
  rw [if_pos hv, if_pos hm]
theorem rjL_0 {s : Hl} {p : Nat} {c : Int} : ∀ (d k : Nat), (∀ j, k ≤ j → j < k + d → ¬ rjC s p j) → rjL p d k c s = (c, s)
  | 0, _, _ => rfl
  | d + 1, k, h => by
    have e : rjL p (d + 1) k c s = if rjC s p k then rjL p d (k + 1) (c + 1) (s.sE1 k (waitE (s.en k))) else rjL p d (k + 1) c s := rfl
    rw [e, if_neg (h k (Nat.le_refl _) (by omega))]
    exact rjL_0 d (k + 1) (fun j h1 h2 => h j (by omega) (by omega))
theorem rjL_p {p : Nat} : ∀ (d k : Nat) (c : Int) (s : Hl), (c ≤ (rjL p d k c s).1 ∧ kp s (rjL p d k c s).2 ∧ (rjL p d k c s).2.pb = s.pb) ∧ (∀ j, j < k → (rjL p d k c s).2.en j = s.en j) ∧ ∀ j, k ≤ j → j < k + d → ¬ rjC (rjL p d k c s).2 p j
  | 0, k, c, s => ⟨⟨Int.le_refl _, ⟨⟨rfl, rfl⟩, rfl⟩, rfl⟩, fun _ _ => rfl, fun j h1 h2 => absurd h2 (by omega)⟩
  | d + 1, k, c, s => by
    have e : rjL p (d + 1) k c s = if rjC s p k then rjL p d (k + 1) (c + 1) (s.sE1 k (waitE (s.en k))) else rjL p d (k + 1) c s := rfl
    rw [e]
    by_cases z : rjC s p k
    · rw [if_pos z]
      obtain ⟨⟨h1, ⟨⟨h2, h3⟩, h4⟩, h5⟩, h6, h7⟩ := rjL_p d (k + 1) (c + 1) (s.sE1 k (waitE (s.en k)))
      refine ⟨⟨by omega, ⟨⟨h2, h3⟩, h4⟩, h5⟩, fun j hj => ?_, fun j g1 g2 => ?_⟩
      · rw [h6 j (by omega)]
        exact updf_n _ _ (by omega)
      · by_cases y : j = k
        · have ek := h6 j (by omega)
          intro w
          have w2 := w.2.1
          rw [ek, y] at w2
          exact w2 (by show (updf s.en k (waitE (s.en k)) k).vd = -1; rw [updf_s]; rfl)
        · exact h7 j (by omega) (by omega)
    · rw [if_neg z]
      obtain ⟨⟨h1, h2, h5⟩, h6, h7⟩ := rjL_p d (k + 1) c s
      refine ⟨⟨h1, h2, h5⟩, fun j hj => h6 j (by omega), fun j g1 g2 => ?_⟩
      by_cases y : j = k
      · have ek := h6 j (by omega)
        intro w
        unfold rjC at w
        rw [ek, h5, y] at w
        exact z w
      · exact h7 j (by omega) (by omega)
theorem t_rejudge {p : Int} (hp : 0 ≤ p ∧ p < (S.np : Int)) : ∃ (v : Int) (T : Hl), rejudgeS S p = (0, v, T) ∧ (0 ≤ v ∧ kp S T ∧ T.pb = S.pb) ∧ rejudgeS T p = (0, 0, T) := by
  obtain ⟨⟨h1, h2, h5⟩, h6, h7⟩ := rjL_p (p := p.toNat) S.ne 0 0 S
  refine ⟨(rjL p.toNat S.ne 0 0 S).1, (rjL p.toNat S.ne 0 0 S).2, ?_, ⟨h1, h2, h5⟩, ?_⟩
  · exact if_pos hp
  · have hp2 : 0 ≤ p ∧ p < ((rjL p.toNat S.ne 0 0 S).2.np : Int) := by rw [h2.1.1]; exact hp
    have e : rejudgeS (rjL p.toNat S.ne 0 0 S).2 p = (0, rjL p.toNat (rjL p.toNat S.ne 0 0 S).2.ne 0 0 (rjL p.toNat S.ne 0 0 S).2) := if_pos hp2
    rw [e, h2.1.2, rjL_0 S.ne 0 (fun j g1 g2 => h7 j g1 g2)]
end TA
