/-! JUDGE, REJUDGE -/
/-- who of the first k entries is judged next -/
def chS (s : Hl) : Nat → Int
  | 0 => -1
  | k + 1 => if (s.en k).vd = -1 then (if chS s k = -1 then (k : Int) else if s.jud (s.en (chS s k).toNat).team ≤ s.jud (s.en k).team then chS s k else (k : Int)) else chS s k
def judgeS (s : Hl) : Out := (0, chS s s.ne, if chS s s.ne = -1 then s else judE s (chS s s.ne).toNat)
theorem ch_rg {s : Hl} : ∀ k, chS s k = -1 ∨ (0 ≤ chS s k ∧ chS s k < (k : Int))
  | 0 => Or.inl rfl
  | k + 1 => by
    have e : chS s (k + 1) = if (s.en k).vd = -1 then (if chS s k = -1 then (k : Int) else if s.jud (s.en (chS s k).toNat).team ≤ s.jud (s.en k).team then chS s k else (k : Int)) else chS s k := rfl
    have h := ch_rg (s := s) k
    rw [e]
    by_cases c1 : (s.en k).vd = -1
    · rw [if_pos c1]
      by_cases c2 : chS s k = -1
      · rw [if_pos c2]; exact Or.inr ⟨by omega, by omega⟩
      · rw [if_neg c2]
        by_cases c3 : s.jud (s.en (chS s k).toNat).team ≤ s.jud (s.en k).team
        · rw [if_pos c3]; exact Or.inr ⟨by omega, by omega⟩
        · rw [if_neg c3]; exact Or.inr ⟨by omega, by omega⟩
    · rw [if_neg c1]; omega
theorem judgeS_ok {s : Hl} (h : s.ok) : (judgeS s).2.2.ok := by
  have := ch_rg (s := s) s.ne
  show (if chS s s.ne = -1 then s else judE s (chS s s.ne).toNat).ok
  by_cases c : chS s s.ne = -1
  · rw [if_pos c]; exact h
  · rw [if_neg c]; exact judE_ok h (by omega)
def waitE (n : En) : En := mkEn n.team n.prob n.whn n.prg (-1) (-1) 0 (-1)
abbrev rjC (s : Hl) (p k : Nat) : Prop := (s.en k).prob = p ∧ (s.en k).vd ≠ -1 ∧ (s.en k).jb ≠ (s.pb p).ver
def rjL (p : Nat) : Nat → Nat → Int → Hl → Int × Hl
  | 0, _, c, s => (c, s)
  | d + 1, k, c, s => if rjC s p k then rjL p d (k + 1) (c + 1) (s.sE1 k (waitE (s.en k))) else rjL p d (k + 1) c s
def rejudgeS (s : Hl) (p : Int) : Out := if 0 ≤ p ∧ p < (s.np : Int) then (0, rjL p.toNat s.ne 0 0 s) else (3, 0, s)
theorem waitE_ok {n : En} {np : Nat} (h : n.ok np) : (waitE n).ok np := ⟨h.1, h.2.1, h.2.2.1, h.2.2.2.1, ⟨Int.le_refl _, show (-1 : Int) ≤ 5 by decide⟩, fun _ => ⟨rfl, rfl, rfl⟩⟩
theorem rjL_ok {p : Nat} : ∀ (d k : Nat) (c : Int) (s : Hl), s.ok → k + d = s.ne → (rjL p d k c s).2.ok
  | 0, _, _, _, h, _ => h
  | d + 1, k, c, s, h, hk => by
    show (if rjC s p k then rjL p d (k + 1) (c + 1) (s.sE1 k (waitE (s.en k))) else rjL p d (k + 1) c s).2.ok
    by_cases q : rjC s p k
    · rw [if_pos q]; exact rjL_ok d (k + 1) _ _ (Hl.e1_ok h (waitE_ok (h.2.2.2.2.2.1 k (by omega)))) (by show k + 1 + d = s.ne; omega)
    · rw [if_neg q]; exact rjL_ok d (k + 1) _ _ h (by omega)
theorem rejudgeS_ok {s : Hl} (h : s.ok) {p : Int} : (rejudgeS s p).2.2.ok := by
  unfold rejudgeS
  split
  · exact rjL_ok s.ne 0 0 s h (by omega)
  · exact h
section JD1
variable {tg : Tg} {K : KT} {P : PT} {I : IT} {x m a t i c e : Nat} {s : Hl} {ks : List Nat}
theorem h_eget {e : Nat} (h : HR tg K P I x s) (he : e < s.ne) : lgetf K P I (P x 4) (e : Int) 1 = some (elt P (P x 4) e) := by
  have := h.2.2.2.2.1.2.1.get (t := 1) (by decide) (x := (e : Int)) (by omega)
  rw [Int.toNat_natCast] at this
  exact this
theorem h_waits {e : Nat} (h : HR tg K P I x s) (he : e < s.ne) : f_X0_waits K P I (elt P (P x 4) e) = some (if (s.en e).vd = -1 then 1 else 0) := by
  have := (h.2.2.2.2.1.2.2 e he).2.2.2.2.2.1
  unfold f_X0_waits
  rw [this]
  by_cases c : (s.en e).vd = -1
  · rw [if_pos c, if_pos c]
  · rw [if_neg c, if_neg c]
theorem h_judge_l (h : HR tg K P I x s) (hs : s.ok) : ∀ (d fuel k : Nat) (x2 : Int), d < fuel → k + d = s.ne → (chS s k ≠ -1 → x2 = s.jud (s.en (chS s k).toNat).team) → f_X7_judge_6 K P fuel I x (chS s k) x2 (k : Int) = f_X7_judge_76 K P I x (chS s s.ne) := by
  have hl := h.2.2.2.2.1.2.1.1
  have hne := hs.2.2.2.2.1
  have hj := h.2.2.2.2.2.2.1
  intro d
  induction d with
  | zero =>
    intro fuel k x2 hf hk h2
    obtain ⟨n, rfl⟩ : ∃ n, fuel = n + 1 := ⟨fuel - 1, by omega⟩
    have hk : k = s.ne := hk
    unfold f_X7_judge_6
    rw [hl, if_pos (by omega), hk]
  | succ d ih =>
    intro fuel k x2 hf hk h2
    obtain ⟨n, rfl⟩ : ∃ n, fuel = n + 1 := ⟨fuel - 1, by omega⟩
    have hkn : k < s.ne := by omega
    have e1 : chS s (k + 1) = if (s.en k).vd = -1 then (if chS s k = -1 then (k : Int) else if s.jud (s.en (chS s k).toNat).team ≤ s.jud (s.en k).team then chS s k else (k : Int)) else chS s k := rfl
    have t0 : I (elt P (P x 4) k) 0 = ((s.en k).team : Int) := (h.2.2.2.2.1.2.2 k hkn).2.2.2.1
    have htm := (hs.2.2.2.2.2.1 k hkn).1
    have ew : wr ((k : Int) + 1) = ((k + 1 : Nat) : Int) := by rw [wr_id (by omega) (by omega)]; rfl
    have take : chS s (k + 1) = (k : Int) → f_X7_judge_57 K P (f_X7_judge_6 K P n) I x k (elt P (P x 4) k) = f_X7_judge_76 K P I x (chS s s.ne) := fun q => by
      unfold f_X7_judge_57 f_X7_judge_70
      rw [t0, ck_t (by omega), Int.toNat_natCast, hj _ htm, ew, ← q]
      exact ih n (k + 1) _ (by omega) (by omega) (fun _ => by rw [q, Int.toNat_natCast])
    have pass : chS s (k + 1) = chS s k → f_X7_judge_70 K P (f_X7_judge_6 K P n) I x (chS s k) x2 k = f_X7_judge_76 K P I x (chS s s.ne) := fun q => by
      unfold f_X7_judge_70
      rw [ew, ← q]
      exact ih n (k + 1) _ (by omega) (by omega) (fun z => by rw [q] at z ⊢; exact h2 z)
    unfold f_X7_judge_6
    rw [hl, if_neg (by omega), h_eget h hkn, bp_s, h_waits h hkn, bp_s]
    by_cases c1 : (s.en k).vd = -1
    · rw [if_pos c1, if_neg (by decide)]
      rw [if_pos c1] at e1
      by_cases c2 : chS s k = -1
      · rw [if_pos c2]
        exact take (by rw [e1, if_pos c2])
      · rw [if_neg c2]
        rw [if_neg c2] at e1
        rw [t0, ck_t (by omega), Int.toNat_natCast, hj _ htm, h2 c2]
        by_cases c3 : s.jud (s.en (chS s k).toNat).team ≤ s.jud (s.en k).team
        · rw [if_pos c3]
          rw [if_pos c3] at e1
          have := pass e1
          rw [h2 c2] at this
          exact this
        · rw [if_neg c3]
          exact take (by rw [e1, if_neg c3])
    · rw [if_neg c1, if_pos rfl]
      exact pass (by rw [e1, if_neg c1])
theorem h_judge (h : HR tg K P I x s) (hs : s.ok) : ∃ I', f_X7_judge K P I x = some ((judgeS s).2.1, I') ∧ HR tg K P I' x (judgeS s).2.2 ∧ FrT tg (fun u => u.1 ≤ 10) I I' := by
  have hne := hs.2.2.2.2.1
  have hc := ch_rg (s := s) s.ne
  have h1 := h_judge_l h hs s.ne FU 0 0 (by unfold FU; omega) (by omega) (fun z => absurd rfl z)
  unfold f_X7_judge
  rw [show f_X7_judge_6 K P FU I x (-1) 0 0 = _ from h1]
  unfold f_X7_judge_76 judgeS
  by_cases c : chS s s.ne = -1
  · rw [if_pos c, if_pos c]
    exact ⟨I, rfl, h, FrT.rf⟩
  · rw [if_neg c, if_neg c]
    obtain ⟨I', k1, k2, k3⟩ := h_giveVerdict (K := K) (e := (chS s s.ne).toNat) h hs (by omega)
    have g := h_eget (e := (chS s s.ne).toNat) h (by omega)
    rw [show (((chS s s.ne).toNat : Nat) : Int) = chS s s.ne by omega] at g
    rw [g, bp_s, k1, bp_s]
    exact ⟨I', rfl, k2, k3⟩
-- rejudge
theorem h_rj_l {p : Nat} (pp : Nat) : ∀ (d fuel k : Nat) (cn : Int) (I : IT) (s : Hl), d < fuel → k + d = s.ne → 0 ≤ cn ∧ cn ≤ k → s.ok → p < s.np → HR tg K P I x s → pp = elt P (P x 3) p → ∃ I', f_X7_rejudge_11 K P fuel I x pp cn (k : Int) = some (0, (rjL p d k cn s).1, I') ∧ HR tg K P I' x (rjL p d k cn s).2 ∧ FrT tg (fun u => u.1 ≤ 10) I I' := by
  intro d
  induction d with
  | zero =>
    intro fuel k cn I s hf hk hcn hs hp h hpp
    obtain ⟨n, rfl⟩ : ∃ n, fuel = n + 1 := ⟨fuel - 1, by omega⟩
    unfold f_X7_rejudge_11
    rw [h.2.2.2.2.1.2.1.1, if_pos (by omega)]
    exact ⟨I, rfl, h, FrT.rf⟩
  | succ d ih =>
    intro fuel k cn I s hf hk hcn hs hp h hpp
    obtain ⟨n, rfl⟩ : ∃ n, fuel = n + 1 := ⟨fuel - 1, by omega⟩
    have hne := hs.2.2.2.2.1
    have hkn : k < s.ne := by omega
    have hn := hs.2.2.2.2.2.1 k hkn
    obtain ⟨q1, q2, q3, q4⟩ := h.2.2.2.2.1.2.2 k hkn
    have n1 : I (P (elt P (P x 4) k) 1) 0 = ((s.en k).prob : Int) := by rw [q3]; exact (h.2.2.2.1.2.2 _ hn.2.1).2.1.1
    have n2 : I pp 0 = (p : Int) := by rw [hpp]; exact (h.2.2.2.1.2.2 p hp).2.1.1
    have n6 : I pp 6 = (s.pb p).ver := by rw [hpp]; exact (h.2.2.2.1.2.2 p hp).2.1.2.2.2
    have ew : wr ((k : Int) + 1) = ((k + 1 : Nat) : Int) := by rw [wr_id (by omega) (by omega)]; rfl
    have e1 : rjL p (d + 1) k cn s = if rjC s p k then rjL p d (k + 1) (cn + 1) (s.sE1 k (waitE (s.en k))) else rjL p d (k + 1) cn s := rfl
    have pass : ¬ rjC s p k → ∃ I', f_X7_rejudge_80 K P (f_X7_rejudge_11 K P n) I x pp cn k = some (0, (rjL p (d + 1) k cn s).1, I') ∧ HR tg K P I' x (rjL p (d + 1) k cn s).2 ∧ FrT tg (fun u => u.1 ≤ 10) I I' := fun q => by
      unfold f_X7_rejudge_80
      rw [ew, e1, if_neg q]
      exact ih n (k + 1) cn I s (by omega) (by omega) (by omega) hs hp h hpp
    unfold f_X7_rejudge_11
    rw [h.2.2.2.2.1.2.1.1, if_neg (by omega), h_eget h hkn, bp_s, n1, n2]
    by_cases c1 : (s.en k).prob = p
    · rw [if_pos (by omega), h_waits h hkn, bp_s]
      by_cases c2 : (s.en k).vd = -1
      · rw [if_pos c2, if_neg (by decide)]
        exact pass (fun z => z.2.1 c2)
      · rw [if_neg c2, if_pos rfl, q4.2.2.2.2.2, n6]
        by_cases c3 : (s.en k).jb = (s.pb p).ver
        · rw [if_pos c3]
          exact pass (fun z => z.2.2 c3)
        · rw [if_neg c3]
          unfold f_X0_letWait f_X7_rejudge_80
          rw [bnd_e, bnd_e, bnd_e, bnd_e, bp_s, ew, e1, if_pos (show rjC s p k from ⟨c1, c2, c3⟩), wr_id (x := cn + 1) (by omega) (by omega)]
          have f4 : FrT tg (fun u => u = (6, k, 0)) I (up (up (up (up I (elt P (P x 4) k) 4 (-1)) (elt P (P x 4) k) 5 (-1)) (elt P (P x 4) k) 6 0) (elt P (P x 4) k) 7 (-1)) := (FrT.up q1).tr ((FrT.up q1).tr ((FrT.up q1).tr (FrT.up q1)))
          have z4 : up (up (up (up I (elt P (P x 4) k) 4 (-1)) (elt P (P x 4) k) 5 (-1)) (elt P (P x 4) k) 6 0) (elt P (P x 4) k) 7 (-1) (elt P (P x 4) k) 4 = -1 := by rw [up_k _ _ _ _ (by decide), up_k _ _ _ _ (by decide), up_k _ _ _ _ (by decide), up_s]
          have z5 : up (up (up (up I (elt P (P x 4) k) 4 (-1)) (elt P (P x 4) k) 5 (-1)) (elt P (P x 4) k) 6 0) (elt P (P x 4) k) 7 (-1) (elt P (P x 4) k) 5 = -1 := by rw [up_k _ _ _ _ (by decide), up_k _ _ _ _ (by decide), up_s]
          have z6 : up (up (up (up I (elt P (P x 4) k) 4 (-1)) (elt P (P x 4) k) 5 (-1)) (elt P (P x 4) k) 6 0) (elt P (P x 4) k) 7 (-1) (elt P (P x 4) k) 6 = 0 := by rw [up_k _ _ _ _ (by decide), up_s]
          have z7 : up (up (up (up I (elt P (P x 4) k) 4 (-1)) (elt P (P x 4) k) 5 (-1)) (elt P (P x 4) k) 6 0) (elt P (P x 4) k) 7 (-1) (elt P (P x 4) k) 7 = -1 := up_s _ _ _ _
          have zz : ∀ j, j < 4 → up (up (up (up I (elt P (P x 4) k) 4 (-1)) (elt P (P x 4) k) 5 (-1)) (elt P (P x 4) k) 6 0) (elt P (P x 4) k) 7 (-1) (elt P (P x 4) k) j = I (elt P (P x 4) k) j := fun j hj => by rw [up_k _ _ _ _ (by omega), up_k _ _ _ _ (by omega), up_k _ _ _ _ (by omega), up_k _ _ _ _ (by omega)]
          generalize up (up (up (up I (elt P (P x 4) k) 4 (-1)) (elt P (P x 4) k) 5 (-1)) (elt P (P x 4) k) 6 0) (elt P (P x 4) k) 7 (-1) = I4 at f4 z4 z5 z6 z7 zz ⊢
          have h4 : HR tg K P I4 x (s.sE1 k (waitE (s.en k))) := by
            refine h.e1 ⟨q1, ⟨q2.1, q2.2.fr (f4.at q2.1.1 (by simp)) (f4.at q2.1.2.1 (by simp)) (f4.at q2.1.2.2 (by simp))⟩, q3, ⟨?_, ?_, z4, z5, z6, z7⟩⟩ (f4.mono (fun u hu => by rw [hu]; exact ⟨rfl, rfl⟩))
            · rw [zz 0 (by decide)]; exact q4.1
            · rw [zz 2 (by decide)]; exact q4.2.1
          obtain ⟨I', k1, k2, k3⟩ := ih n (k + 1) (cn + 1) I4 (s.sE1 k (waitE (s.en k))) (by omega) (by show k + 1 + d = s.ne; omega) (by omega) (Hl.e1_ok hs (waitE_ok hn)) hp h4 hpp
          exact ⟨I', k1, k2, (f4.mono (fun u hu => by rw [hu]; exact (show 6 ≤ 10 by decide))).tr k3⟩
    · rw [if_neg (by omega)]
      exact pass (fun z => c1 z.1)
theorem h_rejudge {p : Int} (h : HR tg K P I x s) (hs : s.ok) : HOut tg K P x I (f_X7_rejudge K P I x p) (rejudgeS s p) := by
  have hne := hs.2.2.2.2.1
  unfold f_X7_rejudge rejudgeS
  rw [h_pAt h]
  by_cases c1 : 0 ≤ p ∧ p < (s.np : Int)
  · rw [if_pos c1, if_pos c1, bx_0, ck_t (h.2.2.2.1.2.1.2.1 _ (by omega))]
    obtain ⟨I', k1, k2, k3⟩ := h_rj_l (K := K) (tg := tg) (x := x) (p := p.toNat) (elt P (P x 3) p.toNat) s.ne FU 0 0 I s (by unfold FU; omega) (by omega) (by omega) hs (by omega) h rfl
    exact ⟨_, I', k1, fun _ => rfl, k2, k3⟩
  · rw [if_neg c1, if_neg c1, bx_s (by decide)]
    exact HOut.same (by decide) h rfl
end JD1
