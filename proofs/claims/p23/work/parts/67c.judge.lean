/-! WHAT JUDGING LEAVES -/
theorem ff_bad {b : Pb} {g : Pg} : ∀ k, b.ff g k ≠ -1 → b.tryE g (b.ff g k).toNat ≠ 0
  | 0, h => absurd rfl h
  | k + 1, h => by
    have e : b.ff g (k + 1) = if Pb.ff b g k = -1 then (if b.tryE g k = 0 then -1 else (k : Int)) else Pb.ff b g k := rfl
    rw [e] at h ⊢
    by_cases c : Pb.ff b g k = -1
    · rw [if_pos c] at h ⊢
      by_cases c2 : b.tryE g k = 0
      · rw [if_pos c2] at h
        exact absurd rfl h
      · rw [if_neg c2, Int.toNat_natCast]
        exact c2
    · rw [if_neg c] at h ⊢
      exact ff_bad k c
theorem bor16 : ∀ a : Nat, a < 16 → ∀ v : Nat, v < 4 → bor (a : Int) (bsl 1 (v : Int)) = ((a ||| 2 ^ v : Nat) : Int) ∧ (a ||| 2 ^ v) < 16 := by decide +kernel
theorem ban16 : ∀ a : Nat, a < 16 → ∀ b : Nat, b < 16 → ∀ k : Nat, k < 4 → b.testBit k = true → ban (bsr (ban (a : Int) (bxo (b : Int) (-1))) (k : Int)) 1 = 0 := by decide +kernel
theorem msk_bits {b : Pb} {g : Pg} (hg : ∀ j, j < b.nt → 0 ≤ (b.tr j).2 ∧ (b.tr j).2 ≤ 3) : ∀ k, k ≤ b.nt → ∃ m1 m2 : Nat, ((b.msk g k).1 = (m1 : Int) ∧ (b.msk g k).2 = (m2 : Int)) ∧ (m1 < 16 ∧ m2 < 16) ∧ ∀ j, j < k → b.tryE g j ≠ 0 → m2.testBit (b.tr j).2.toNat = true
  | 0, _ => ⟨0, 0, ⟨rfl, rfl⟩, ⟨by decide, by decide⟩, fun j hj => absurd hj (Nat.not_lt_zero _)⟩
  | k + 1, hk => by
    obtain ⟨m1, m2, ⟨h1, h2⟩, ⟨h3, h4⟩, h5⟩ := msk_bits hg k (by omega)
    obtain ⟨g1, g2⟩ := hg k (by omega)
    have eg : (b.tr k).2 = ((b.tr k).2.toNat : Int) := by omega
    have hv : (b.tr k).2.toNat < 4 := by omega
    obtain ⟨p1, p2⟩ := bor16 m1 h3 _ hv
    obtain ⟨q1, q2⟩ := bor16 m2 h4 _ hv
    have e1 : (b.msk g (k + 1)).1 = bor (b.msk g k).1 (bsl 1 (b.tr k).2) := rfl
    have e2 : (b.msk g (k + 1)).2 = if b.tryE g k = 0 then (b.msk g k).2 else bor (b.msk g k).2 (bsl 1 (b.tr k).2) := rfl
    rw [h1, eg, p1] at e1
    rw [h2, eg, q1] at e2
    by_cases c : b.tryE g k = 0
    · rw [if_pos c] at e2
      refine ⟨_, m2, ⟨e1, e2⟩, ⟨p2, h4⟩, fun j hj hn => ?_⟩
      by_cases z : j = k
      · rw [z] at hn; exact absurd c hn
      · exact h5 j (by omega) hn
    · rw [if_neg c] at e2
      refine ⟨_, _, ⟨e1, e2⟩, ⟨p2, q2⟩, fun j hj hn => ?_⟩
      rw [Nat.testBit_or]
      by_cases z : j = k
      · rw [z, Nat.testBit_two_pow_self, Bool.or_true]
      · rw [h5 j (by omega) hn, Bool.true_or]
theorem pts300 {pts : Nat → Int} {z : Int} (h : ∀ k, k < 4 → 0 ≤ pts k ∧ pts k ≤ 100) {k : Nat} (hk : k < 4) (hz : ban (bsr z (k : Int)) 1 = 0) : ptsS pts z 4 ≤ 300 := by
  have t : ∀ j : Nat, j < 4 → 0 ≤ (if ban (bsr z (j : Int)) 1 = 0 then 0 else pts j) ∧ (if ban (bsr z (j : Int)) 1 = 0 then 0 else pts j) ≤ 100 := fun j hj => by
    have := h j hj
    split <;> omega
  have e : ptsS pts z 4 = 0 + (if ban (bsr z ((0 : Nat) : Int)) 1 = 0 then 0 else pts 0) + (if ban (bsr z ((1 : Nat) : Int)) 1 = 0 then 0 else pts 1) + (if ban (bsr z ((2 : Nat) : Int)) 1 = 0 then 0 else pts 2) + (if ban (bsr z ((3 : Nat) : Int)) 1 = 0 then 0 else pts 3) := rfl
  have t0 := t 0 (by decide)
  have t1 := t 1 (by decide)
  have t2 := t 2 (by decide)
  have t3 := t 3 (by decide)
  have tz : (if ban (bsr z (k : Int)) 1 = 0 then 0 else pts k) = 0 := if_pos hz
  rw [e]
  have hc : k = 0 ∨ k = 1 ∨ k = 2 ∨ k = 3 := by omega
  rcases hc with rfl | rfl | rfl | rfl <;> rw [tz] <;> omega
/-- what an entry holds that is judged: failing is told by its first test, and costs a group -/
theorem judged {b : Pb} {g : Pg} (hb : b.ok) : (0 ≤ b.vd g ∧ (b.vd g = 0 ↔ b.ff g b.nt < 0)) ∧ (0 < b.vd g → ptsS b.pts (b.grp g) 4 ≤ 300) := by
  obtain ⟨b1, b2, b3, b4, b5, b6⟩ := hb
  have hr := ff_rg (b := b) (g := g) b.nt
  have hv := vd_rg (b := b) (g := g)
  by_cases c : b.ff g b.nt = -1
  · have ev : b.vd g = 0 := if_pos c
    exact ⟨⟨by omega, ⟨fun _ => by omega, fun _ => ev⟩⟩, fun h => absurd h (by omega)⟩
  · have hn := ff_bad (b := b) (g := g) b.nt c
    have ev : b.vd g = b.tryE g (b.ff g b.nt).toNat := if_neg c
    refine ⟨⟨hv.1, ⟨fun h => absurd (ev.symm.trans h) hn, fun h => by omega⟩⟩, fun _ => ?_⟩
    obtain ⟨m1, m2, ⟨h1, h2⟩, ⟨h3, h4⟩, h5⟩ := msk_bits (b := b) (g := g) (fun j hj => (b5 j hj).2.1) b.nt (Nat.le_refl _)
    have hj : (b.ff g b.nt).toNat < b.nt := by omega
    have hb5 := (b5 _ hj).2.1
    refine pts300 b6 (k := (b.tr (b.ff g b.nt).toNat).2.toNat) (by omega) ?_
    unfold Pb.grp
    rw [h1, h2]
    exact ban16 m1 h3 m2 h4 _ (by omega) (h5 _ hj hn)
theorem ch_all {s : Hl} : ∀ k, chS s k = -1 → ∀ e, e < k → (s.en e).vd ≠ -1
  | 0, _ => fun e he => absurd he (Nat.not_lt_zero _)
  | k + 1, h => fun e he => by
    have eq : chS s (k + 1) = if (s.en k).vd = -1 then (if chS s k = -1 then (k : Int) else if s.jud (s.en (chS s k).toNat).team ≤ s.jud (s.en k).team then chS s k else (k : Int)) else chS s k := rfl
    rw [eq] at h
    by_cases c : (s.en k).vd = -1
    · rw [if_pos c] at h
      by_cases c2 : chS s k = -1
      · rw [if_pos c2] at h; omega
      · rw [if_neg c2] at h
        split at h
        · exact absurd h c2
        · omega
    · rw [if_neg c] at h
      by_cases z : e = k
      · rw [z]; exact c
      · exact ch_all k h e (by omega)
def kp (S T : Hl) : Prop := (T.np = S.np ∧ T.ne = S.ne) ∧ T.min = S.min
theorem t_judge {S : Hl} (hok : S.ok) : ∃ (v : Int) (T : Hl), judgeS S = (0, v, T) ∧ (kp S T ∧ T.pb = S.pb) ∧ ((v = -1 ∧ T = S ∧ ∀ e, e < S.ne → 0 ≤ (S.en e).vd) ∨ ∃ e : Nat, v = (e : Int) ∧ e < S.ne ∧ (0 ≤ (T.en e).vd ∧ ((T.en e).vd = 0 ↔ (T.en e).fl < 0)) ∧ (0 < (T.en e).vd → (T.en e).sc ≤ 300)) := by
  have hr := ch_rg (s := S) S.ne
  by_cases c : chS S S.ne = -1
  · refine ⟨-1, S, ?_, ⟨⟨⟨rfl, rfl⟩, rfl⟩, rfl⟩, Or.inl ⟨rfl, rfl, fun e he => ?_⟩⟩
    · unfold judgeS
      rw [c, if_pos rfl]
    · have h1 := ch_all S.ne c e he
      have h2 := (hok.2.2.2.2.2.1 e he).2.2.2.2.1
      omega
  · have hlt : (chS S S.ne).toNat < S.ne := by omega
    have hE := hok.2.2.2.2.2.1 _ hlt
    have hb := hok.2.2.2.1 _ hE.2.1
    refine ⟨chS S S.ne, judE S (chS S S.ne).toNat, ?_, ⟨⟨⟨rfl, rfl⟩, rfl⟩, rfl⟩, Or.inr ⟨(chS S S.ne).toNat, by omega, hlt, ?_⟩⟩
    · unfold judgeS
      rw [if_neg c]
    · have e : (judE S (chS S S.ne).toNat).en (chS S S.ne).toNat = mkEn (S.en (chS S S.ne).toNat).team (S.en (chS S S.ne).toNat).prob (S.en (chS S S.ne).toNat).whn (S.en (chS S S.ne).toNat).prg ((S.pb (S.en (chS S S.ne).toNat).prob).vd (S.en (chS S S.ne).toNat).prg) ((S.pb (S.en (chS S S.ne).toNat).prob).ff (S.en (chS S S.ne).toNat).prg (S.pb (S.en (chS S S.ne).toNat).prob).nt) (ptsS (S.pb (S.en (chS S S.ne).toNat).prob).pts ((S.pb (S.en (chS S S.ne).toNat).prob).grp (S.en (chS S S.ne).toNat).prg) 4) (S.pb (S.en (chS S S.ne).toNat).prob).ver := updf_s _ _ _
      rw [e]
      exact judged hb
theorem entry_is {s : Hl} {e w : Int} (he : 0 ≤ e ∧ e < (s.ne : Int)) (hw : 0 ≤ w ∧ w ≤ 6) : entryS s e w = (0, entryV (s.en e.toNat) w, s) := by
  unfold entryS
  rw [if_pos he, if_pos hw]
