section XR4
variable {K : KT} {P : PT} {I : IT} {m k sl inp : Nat} {s : MS} {g : Pg} {r : Rw}
theorem XRep.steps (hX : XD P m) (h : XRep P I m s k) {k2 : Nat} {v : Int} (hv : v = (k2 : Int)) : XRep P (up I m 26 v) m s k2 :=
  ⟨h.1.up (by decide) (hX.1 29 (by decide)), h.2.1.up (by decide) (hX.1 28 (by decide)), by rw [up_s]; exact hv, by rw [up_k _ _ _ _ (by decide)]; exact h.2.2.2⟩
/-- the loop: with 'left' steps left -/
theorem x_loop (hX : XD P m) (hg : g.ok) (hr : r.ok) (hsl : sl < 67) (hin : inp < 73) (lim : Nat) (hl : lim ≤ 500) : ∀ (left fuel : Nat) (I : IT) (s : MS), left + 1 < fuel → left ≤ lim → s.ok g r → XPg P I m sl g → XIn P I m inp r → XRep P I m s (lim - left) →
    ∃ I', f_X8_runs_26 K P fuel I m sl inp (lim : Int) s.nx s.rd = some I' ∧ I' m 25 = (runS g r left s).1 ∧ XRow P I' m 27 28 (runS g r left s).2.2 ∧ I' m 26 = ((lim - (runS g r left s).2.1 : Nat) : Int) ∧ FrX P m I I' := by
  intro left
  induction left with
  | zero =>
    intro fuel I s hf hll hs hP hR h
    obtain ⟨n, rfl⟩ : ∃ n, fuel = n + 1 := ⟨fuel - 1, by omega⟩
    rw [runS_z]
    unfold f_X8_runs_26
    have e4 : I m 26 = ((lim - 0 : Nat) : Int) := h.2.2.1
    have e1 : I (P m 1) sl = (g.n : Int) := hP.1
    have hnx := hs.1
    rw [if_pos h.2.2.2, ck_t (by omega), Int.toNat_natCast, e1]
    by_cases c : s.nx = g.n
    · rw [if_pos (by omega), if_pos c]
      exact ⟨I, rfl, h.2.2.2, h.2.1, e4, FrX.rf⟩
    · rw [if_neg (by omega), if_neg c, if_pos (by omega)]
      unfold f_X8_runs_52
      rw [bnd_e]
      exact ⟨_, rfl, up_s _ _ _ _, h.2.1.up (by decide) (hX.1 28 (by decide)), by rw [up_k _ _ _ _ (by decide)]; exact e4, FrX.m (by decide)⟩
  | succ left ih =>
    intro fuel I s hf hll hs hP hR h
    obtain ⟨n, rfl⟩ : ∃ n, fuel = n + 1 := ⟨fuel - 1, by omega⟩
    rw [runS_s]
    unfold f_X8_runs_26
    have e4 : I m 26 = ((lim - (left + 1) : Nat) : Int) := h.2.2.1
    have e1 : I (P m 1) sl = (g.n : Int) := hP.1
    have hnx := hs.1
    have hg16 := hg.1
    rw [if_pos h.2.2.2, ck_t (by omega), Int.toNat_natCast, e1]
    by_cases c : s.nx = g.n
    · rw [if_pos (by omega), if_pos c]
      exact ⟨I, rfl, h.2.2.2, h.2.1, e4, FrX.rf⟩
    · have hlt : s.nx < g.n := by omega
      rw [if_neg (by omega), if_neg c, if_neg (by omega), bnd_e, e4, wr_id (x := (((lim - (left + 1) : Nat) : Int) + 1)) (by omega) (by omega)]
      have h1 := h.steps hX (k2 := lim - left) (v := ((lim - (left + 1) : Nat) : Int) + 1) (by omega)
      have f1 : FrX P m I (up I m 26 (((lim - (left + 1) : Nat) : Int) + 1)) := FrX.m (by decide)
      generalize up I m 26 (((lim - (left + 1) : Nat) : Int) + 1) = I8 at h1 f1 ⊢
      have hP8 := hP.fr hX f1
      have hR8 := hR.fr hX f1
      have hq := hP8.2 s.nx hlt
      rw [wr_id (x := 16 * (sl : Int)) (by omega) (by omega), wr_id (x := 16 * (sl : Int) + (s.nx : Int)) (by omega) (by omega), ck_t (by omega), ck_t (by omega), show (16 * (sl : Int) + (s.nx : Int)).toNat = 16 * sl + s.nx by omega, hq.1, hq.2, x_needs, bp_s, show I8 m 30 = (s.st.n : Int) from h1.1.1]
      have h9 := (hg.2 s.nx hlt).1
      have e30 : wr ((s.nx : Int) + 1) = ((s.nx + 1 : Nat) : Int) := by rw [wr_id (by omega) (by omega)]; rfl
      have er : I8 (P m 4) inp = (r.n : Int) := hR8.1
      have hrd := hs.2.1
      have bad : ∀ s2, stepS g r s = (4, s2) → ∃ I', f_X8_runs_127 K P I8 m = some I' ∧ I' m 25 = (if (stepS g r s).1 = 0 then runS g r left (stepS g r s).2 else ((stepS g r s).1, left, s.ou)).1 ∧ XRow P I' m 27 28 (if (stepS g r s).1 = 0 then runS g r left (stepS g r s).2 else ((stepS g r s).1, left, s.ou)).2.2 ∧ I' m 26 = ((lim - (if (stepS g r s).1 = 0 then runS g r left (stepS g r s).2 else ((stepS g r s).1, left, s.ou)).2.1 : Nat) : Int) ∧ FrX P m I I' := by
        intro s2 he
        rw [he, if_neg (show ¬ (4 : Int) = 0 by decide)]
        unfold f_X8_runs_127
        rw [bnd_e]
        exact ⟨_, rfl, up_s _ _ _ _, h1.2.1.up (by decide) (hX.1 28 (by decide)), by rw [up_k _ _ _ _ (by decide)]; exact h1.2.2.1, f1.tr (FrX.m (by decide))⟩
      by_cases c2 : s.st.n < nd (g.s s.nx)
      · rw [if_pos (Int.ofNat_lt.mpr c2)]
        obtain ⟨s2, he⟩ := step_lacks (r := r) h9 (Or.inl c2)
        exact bad s2 he
      rw [if_neg (fun e => c2 (Int.ofNat_lt.mp e))]
      have good : (g.s s.nx = 0 → s.rd < r.n) → ∃ I', f_X8_runs_133 K P (f_X8_runs_26 K P n) I8 m sl inp lim (wr ((s.nx : Int) + 1)) s.rd (g.s s.nx) (g.v s.nx) = some I' ∧ I' m 25 = (if (stepS g r s).1 = 0 then runS g r left (stepS g r s).2 else ((stepS g r s).1, left, s.ou)).1 ∧ XRow P I' m 27 28 (if (stepS g r s).1 = 0 then runS g r left (stepS g r s).2 else ((stepS g r s).1, left, s.ou)).2.2 ∧ I' m 26 = ((lim - (if (stepS g r s).1 = 0 then runS g r left (stepS g r s).2 else ((stepS g r s).1, left, s.ou)).2.1 : Nat) : Int) ∧ FrX P m I I' := by
        intro hr0
        obtain ⟨I9, a, b, u1, u2, u3, u4⟩ := x_step (K := K) (x3 := (lim : Int)) (k26 := f_X8_runs_26 K P n) hX hg hr hs hlt hP8 hR8 hsl hin h1 e30 rfl c2 hr0
        rw [u1]
        have f2 := f1.tr u3
        by_cases c3 : (stepS g r s).1 = 0
        · obtain ⟨rfl, rfl⟩ := u4 c3
          rw [if_pos c3]
          obtain ⟨I', k1, k2, k3, k4, k5⟩ := ih n I9 (stepS g r s).2 (by omega) (by omega) (stepS_ok hg hr hs hlt) (hP.fr hX f2) (hR.fr hX f2) (u2.2.2.1 c3)
          exact ⟨I', k1, k2, k3, k4, f2.tr k5⟩
        · rw [if_neg c3]
          obtain ⟨n2, rfl⟩ : ∃ n2, n = n2 + 1 := ⟨n - 1, by omega⟩
          have e25 : ¬ I9 m 25 = 0 := by rw [u2.1]; exact c3
          unfold f_X8_runs_26
          rw [if_neg e25]
          exact ⟨I9, rfl, u2.1, u2.2.2.2 c3, u2.2.1, f2⟩
      by_cases c0 : g.s s.nx = 0
      · rw [if_pos c0, ck_t (by omega), Int.toNat_natCast, er]
        by_cases c3 : s.rd < r.n
        · rw [if_neg (by omega)]
          exact good (fun _ => c3)
        · rw [if_pos (by omega)]
          obtain ⟨s2, he⟩ := step_lacks (s := s) h9 (Or.inr ⟨c0, c3⟩)
          exact bad s2 he
      · rw [if_neg c0]
        exact good (fun e => absurd e c0)
theorem x_runs (hX : XD P m) (hg : g.ok) (hr : r.ok) (hsl : sl < 67) (hin : inp < 73) (lim : Nat) (hl : lim ≤ 500) (hP : XPg P I m sl g) (hR : XIn P I m inp r) :
    ∃ I', f_X8_runs K P I m sl inp (lim : Int) = some I' ∧ I' m 25 = (runA g r lim).e ∧ XRow P I' m 27 28 (runA g r lim).o ∧ I' m 26 = ((runA g r lim).k : Int) ∧ FrX P m I I' := by
  unfold f_X8_runs
  simp only [bnd_e]
  generalize hI : up (up (up (up I m 25 0) m 26 0) m 27 0) m 30 0 = I5
  have f1 : FrX P m I I5 := by
    rw [← hI]
    exact (FrX.m (by decide)).tr ((FrX.m (by decide)).tr ((FrX.m (by decide)).tr (FrX.m (by decide))))
  have h1 : XRep P I5 m ms0 (lim - lim) := by
    rw [← hI]
    refine ⟨⟨by rw [up_s]; rfl, fun j hj => absurd hj (Nat.not_lt_zero _)⟩, ⟨?_, fun j hj => absurd hj (Nat.not_lt_zero _)⟩, ?_, ?_⟩
    · rw [up_k _ _ _ _ (by decide), up_s]; rfl
    · rw [up_k _ _ _ _ (by decide), up_k _ _ _ _ (by decide), up_s]; omega
    · rw [up_k _ _ _ _ (by decide), up_k _ _ _ _ (by decide), up_k _ _ _ _ (by decide), up_s]
  obtain ⟨I', u1, u2, u3, u4, u5⟩ := x_loop (K := K) hX hg hr hsl hin lim hl lim FU I5 ms0 (by unfold FU; omega) (Nat.le_refl _) ⟨Nat.zero_le _, Nat.zero_le _, Nat.zero_le _, Nat.zero_le _, fun j hj => absurd hj (Nat.not_lt_zero _)⟩ (hP.fr hX f1) (hR.fr hX f1) h1
  exact ⟨I', u1, u2, u3, u4, f1.tr u5⟩
end XR4
