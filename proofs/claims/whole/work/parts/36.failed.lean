section FF1
variable {tg : Tg} {K : KT} {P : PT} {I : IT} {x m a t i c e : Nat} {s : Hl} {ks : List Nat}
theorem ff_stop {b : Pb} {g : Pg} {k : Nat} (h : b.ff g k = -1) (hc : b.tryE g k ≠ 0) : ∀ q, k + 1 ≤ q → b.ff g q = (k : Int) := by
  have e : b.ff g (k + 1) = (k : Int) := by
    show (if b.ff g k = -1 then (if b.tryE g k = 0 then -1 else (k : Int)) else b.ff g k) = _
    rw [if_pos h, if_neg hc]
  intro q hq
  induction q with
  | zero => omega
  | succ q ih2 =>
    by_cases z : k + 1 = q + 1
    · rw [← z]; exact e
    · have := ih2 (by omega)
      show (if b.ff g q = -1 then _ else b.ff g q) = _
      rw [if_neg (by omega), this]
theorem ff_go {b : Pb} {g : Pg} {k : Nat} (h : b.ff g k = -1) (hc : b.tryE g k = 0) : b.ff g (k + 1) = -1 := by
  show (if b.ff g k = -1 then (if b.tryE g k = 0 then -1 else (k : Int)) else b.ff g k) = _
  rw [if_pos h, if_pos hc]
/-- the model tries an entry's program with a test of its problem -/
theorem x_tryE {j : Nat} (h : MH tg P I m s) (hs : s.ok) (he : e < s.ne) (hj : j < (s.pb (s.en e).prob).nt) :
    ∃ I', f_X8_does K P I m (s.en e).prob (wr (7 + (e : Int))) (wr (wr (12 * ((s.en e).prob : Int)) + (j : Int))) = some ((s.pb (s.en e).prob).tryE (s.en e).prg j, I') ∧ MH tg P I' m s ∧ I' m 38 = I m 38 ∧ FrY tg m I I' := by
  have hn := hs.2.2.2.2.2.1 e he
  have hb := hs.2.2.2.1 _ hn.2.1
  have hnp := hs.2.2.1
  have hne := hs.2.2.2.2.1
  have hnt := hb.2.2.2.1
  have hp := hn.2.1
  rw [wr_id (x := 7 + (e : Int)) (by omega) (by omega), wr_id (x := 12 * ((s.en e).prob : Int)) (by omega) (by omega), wr_id (by omega) (by omega), show 7 + (e : Int) = ((7 + e : Nat) : Int) by omega, show 12 * ((s.en e).prob : Int) + (j : Int) = ((12 * (s.en e).prob + j : Nat) : Int) by omega]
  exact x_does (K := K) h hs hp hn.2.2.2.1 (hb.2.2.2.2.1 j hj).1 (by omega) (by omega) (h.2.2.2.2.1 e he).2.1 ((h.2.2.2.1 _ hp).2.2.1 j hj).1
theorem x_ff_l (hs : s.ok) (he : e < s.ne) : ∀ (d fuel k : Nat) (I : IT), d < fuel → k + d = (s.pb (s.en e).prob).nt → MH tg P I m s → (s.pb (s.en e).prob).ff (s.en e).prg k = -1 → ∃ I', f_X8_firstFailed_9 K P fuel I m e (s.en e).prob (k : Int) = some ((s.pb (s.en e).prob).ff (s.en e).prg (s.pb (s.en e).prob).nt, I') ∧ MH tg P I' m s ∧ I' m 38 = I m 38 ∧ FrY tg m I I' := by
  have hn := hs.2.2.2.2.2.1 e he
  have hb := hs.2.2.2.1 _ hn.2.1
  have hnp := hs.2.2.1
  have hnt := hb.2.2.2.1
  have hp := hn.2.1
  intro d
  induction d with
  | zero =>
    intro fuel k I hf hk h hff
    obtain ⟨n, rfl⟩ : ∃ n, fuel = n + 1 := ⟨fuel - 1, by omega⟩
    have hk : k = (s.pb (s.en e).prob).nt := hk
    unfold f_X8_firstFailed_9
    rw [ck_t (by omega), Int.toNat_natCast, (h.2.2.2.1 _ hp).1.2.2.2, if_pos (by omega)]
    rw [hk] at hff
    rw [hff]
    exact ⟨I, rfl, h, rfl, FrY.rf⟩
  | succ d ih =>
    intro fuel k I hf hk h hff
    obtain ⟨n, rfl⟩ : ∃ n, fuel = n + 1 := ⟨fuel - 1, by omega⟩
    obtain ⟨I1, u1, u2, u3, u4⟩ := x_tryE (K := K) h hs he (j := k) (by omega)
    unfold f_X8_firstFailed_9
    rw [ck_t (by omega), Int.toNat_natCast, (h.2.2.2.1 _ hp).1.2.2.2, if_neg (by omega), u1, bi_s, show wr ((k : Int) + 1) = ((k + 1 : Nat) : Int) by rw [wr_id (by omega) (by omega)]; rfl]
    by_cases c : (s.pb (s.en e).prob).tryE (s.en e).prg k = 0
    · rw [if_pos c]
      obtain ⟨I', k1, k2, k3, k4⟩ := ih n (k + 1) I1 (by omega) (by omega) u2 (ff_go hff c)
      exact ⟨I', k1, k2, k3.trans u3, u4.tr k4⟩
    · rw [if_neg c, ff_stop hff c _ (by omega)]
      exact ⟨I1, rfl, u2, u3, u4⟩
/-- the model: the first test that an entry does not pass -/
theorem x_firstFailed (h : MH tg P I m s) (hs : s.ok) (he : e < s.ne) : ∃ I', f_X8_firstFailed K P I m e = some ((s.pb (s.en e).prob).ff (s.en e).prg (s.pb (s.en e).prob).nt, I') ∧ MH tg P I' m s ∧ I' m 38 = I m 38 ∧ FrY tg m I I' := by
  have hne := hs.2.2.2.2.1
  have hnt := (hs.2.2.2.1 _ (hs.2.2.2.2.2.1 e he).2.1).2.2.2.1
  unfold f_X8_firstFailed
  rw [ck_t (by omega), Int.toNat_natCast, (h.2.2.2.2.1 e he).1.2.1]
  exact x_ff_l hs he (s.pb (s.en e).prob).nt FU 0 I (by unfold FU; omega) (by omega) h rfl
end FF1
