section EXE
variable {K : KT} {P : PT} {I : IT} {mc k ga ra : Nat} {s : MS} {g : Pg} {r : Rw}
theorem bi_id {x : Option (Int × IT)} : bi x (fun r I => some (r, I)) = x := by
  cases x with
  | none => rfl
  | some q => rfl
/-- a program, or a row, that the machine's own cells are no part of -/
def NtP (P : PT) (mc a : Nat) : Prop := ¬ TM P mc a ∧ ¬ TM P mc (P a 0) ∧ ¬ TM P mc (P a 1)
def NtR (P : PT) (mc a : Nat) : Prop := ¬ TM P mc a ∧ ¬ TM P mc (P a 0)
theorem PgI.frM (h : PgI P I ga g) (hn : NtP P mc ga) {I' : IT} (hf : FrM P mc I I') : PgI P I' ga g := h.fr (hf _ hn.1) (hf _ hn.2.1) (hf _ hn.2.2)
theorem RowI.frM (h : RowI P I ra r) (hn : NtR P mc ra) {I' : IT} (hf : FrM P mc I I') : RowI P I' ra r := h.fr (hf _ hn.1) (hf _ hn.2)
theorem StR.of {I' : IT} {s1 : MS} {q : Int × MS} (h : StR P I' mc k s1 q) (he : s1.ou = s.ou) : StR P I' mc k s q := ⟨h.1, fun h0 => by rw [← he]; exact h.2 h0⟩
theorem e_step (hD : MD P mc) (hg : g.ok) (hr : r.ok) (hs : s.ok g r) (hn : s.nx < g.n) (hP : PgI P I ga g) (hR : RowI P I ra r) (nP : NtP P mc ga) (nR : NtR P mc ra) (h : MRep P I mc s k) : ∃ I', f_X1_step K P I mc ga ra = some ((stepS g r s).1, I') ∧ StR P I' mc k s (stepS g r s) ∧ FrM P mc I I' := by
  have hg16 := hg.1
  have e3 : I mc 3 = (s.nx : Int) := h.2.2.2.1
  have e2 : I ga 2 = (g.n : Int) := hP.1
  have hq := hP.2 s.nx hn
  have hv := hg.2 s.nx hn
  have h1 := h.nx hD (s.nx + 1) (v := wr (I mc 3 + 1)) (by rw [e3, wr_id (by omega) (by omega)]; rfl)
  have f1 : FrM P mc I (up I mc 3 (wr (I mc 3 + 1))) := up_fr
  have h8 : s.st.n ≤ 8 := hs.2.2.1
  unfold f_X1_step
  rw [show f_X3_has K P I ga (I mc 3) = some 1 by
    unfold f_X3_has
    rw [if_neg (by omega), if_neg (by omega), if_neg (by omega)]]
  rw [bp_s, if_neg (by decide), ck_t (by omega), ck_t (by omega), bnd_e]
  rw [e3, Int.toNat_natCast, hq.1, hq.2, ← e3]
  unfold stepS
  dsimp only
  generalize hI3 : up I mc 3 (wr (I mc 3 + 1)) = I3 at h1 f1 ⊢
  by_cases c0 : g.s s.nx = 0
  · rw [if_pos c0, if_pos c0]
    have er : I3 ra 1 = (r.n : Int) := by rw [f1 _ nR.1]; exact hR.1
    have e4 : I3 mc 4 = (s.rd : Int) := h1.2.2.2.2
    by_cases c : s.rd < r.n
    · rw [if_neg (by omega), if_pos c, bnd_e, e4]
      have h2 := h1.rd hD (s.rd + 1) (v := wr ((s.rd : Int) + 1)) (by have := hr.1; rw [wr_id (by omega) (by omega)]; rfl)
      have f2 : FrM P mc I (up I3 mc 4 (wr ((s.rd : Int) + 1))) := f1.tr up_fr
      rw [r_at (hR.frM nR f2) (Nat.le_trans hr.1 (by decide)), if_pos (by constructor; omega; exact Int.ofNat_lt.mpr c), bp_s, bi_id, Int.toNat_natCast]
      obtain ⟨I', k1, k2, k3⟩ := e_put (K := K) (v := r.f s.rd) hD h2
      exact ⟨I', k1, k2.of rfl, f2.tr k3⟩
    · rw [if_pos (by omega), if_neg c]
      exact ⟨I3, rfl, StR.bad (show (4 : Int) ≠ 0 by decide) h1.2.1 h1.2.2.1, f1⟩
  rw [if_neg c0, if_neg c0]
  by_cases c1 : g.s s.nx = 1
  · rw [if_pos c1, if_pos c1, bi_id]
    obtain ⟨I', k1, k2, k3⟩ := e_put (K := K) (v := g.v s.nx) hD h1
    exact ⟨I', k1, k2.of rfl, f1.tr k3⟩
  rw [if_neg c1, if_neg c1]
  by_cases c2 : g.s s.nx = 2 ∨ g.s s.nx = 3 ∨ g.s s.nx = 4
  · rw [if_pos c2]
    have key : ∃ I', f_X1_step_138 K P I3 mc (g.s s.nx) = some (((s.nxt (s.nx + 1)).make (g.s s.nx)).1, I') ∧ StR P I' mc k s ((s.nxt (s.nx + 1)).make (g.s s.nx)) ∧ FrM P mc I I' := by
      unfold f_X1_step_138
      rw [bi_id]
      obtain ⟨I', k1, k2, k3⟩ := e_make (K := K) c2 hD h1 h8 hs.2.2.2.2
      exact ⟨I', k1, k2.of rfl, f1.tr k3⟩
    rcases c2 with c2 | c2 | c2
    · rw [if_pos c2]; exact key
    · rw [if_neg (fun e => absurd (e.symm.trans c2) (by decide)), if_pos c2]; exact key
    · rw [if_neg (fun e => absurd (e.symm.trans c2) (by decide)), if_neg (fun e => absurd (e.symm.trans c2) (by decide)), if_pos c2]; exact key
  rw [if_neg c2, if_neg (fun e => c2 (Or.inl e)), if_neg (fun e => c2 (Or.inr (Or.inl e))), if_neg (fun e => c2 (Or.inr (Or.inr e)))]
  by_cases c5 : g.s s.nx = 5
  · rw [if_pos c5, if_pos c5]
    have es : I3 (P mc 0) 1 = (s.st.n : Int) := h1.1.1
    rw [es]
    by_cases c : 1 ≤ s.st.n
    · rw [if_pos (by omega), if_pos c, wr_id (by omega) (by omega), r_at h1.1 h8, if_pos (by show 0 ≤ (s.st.n : Int) - 1 ∧ (s.st.n : Int) - 1 < (s.st.n : Int); omega), bp_s, bi_id, show ((s.st.n : Int) - 1).toNat = s.st.n - 1 by omega]
      obtain ⟨I', k1, k2, k3⟩ := e_put (K := K) (v := s.st.f (s.st.n - 1)) hD h1
      exact ⟨I', k1, k2.of rfl, f1.tr k3⟩
    · rw [if_neg (by omega), if_neg c]
      exact ⟨I3, rfl, StR.bad (show (4 : Int) ≠ 0 by decide) h1.2.1 h1.2.2.1, f1⟩
  rw [if_neg c5, if_neg c5]
  by_cases c6 : g.s s.nx = 6
  · rw [if_pos c6, if_pos c6, bi_id]
    obtain ⟨I', k1, k2, k3⟩ := e_swap (K := K) hD h1 h8
    exact ⟨I', k1, k2.of rfl, f1.tr k3⟩
  rw [if_neg c6, if_neg c6]
  have e5 : I3 ga 2 = (g.n : Int) := by rw [f1 _ nP.1]; exact e2
  rw [e5]
  by_cases c7 : g.s s.nx = 7
  · rw [if_pos c7, if_pos c7, bi_id]
    obtain ⟨I', k1, k2, k3⟩ := e_goz (K := K) (v := g.v s.nx) (n := g.n) hD h1 h8
    exact ⟨I', k1, k2.of rfl, f1.tr k3⟩
  rw [if_neg c7, if_neg c7]
  by_cases c8 : g.s s.nx = 8
  · rw [if_pos c8, if_pos c8, bi_id]
    obtain ⟨I', k1, k2, k3⟩ := e_go (K := K) (v := g.v s.nx) (n := g.n) hD h1
    exact ⟨I', k1, k2.of rfl, f1.tr k3⟩
  rw [if_neg c8, if_neg c8, bi_id]
  obtain ⟨I', k1, k2, k3⟩ := e_print (K := K) hD h1 h8
  exact ⟨I', k1, k2.of rfl, f1.tr k3⟩
theorem runS_z {s : MS} : runS g r 0 s = if s.nx = g.n then (0, 0, s.ou) else (2, 0, s.ou) := rfl
theorem runS_s {k : Nat} {s : MS} : runS g r (k + 1) s = if s.nx = g.n then (0, k + 1, s.ou) else if (stepS g r s).1 = 0 then runS g r k (stepS g r s).2 else ((stepS g r s).1, k, s.ou) := rfl
/-- the loop: with k steps left of lim -/
theorem e_loop (hD : MD P mc) (hg : g.ok) (hr : r.ok) (nP : NtP P mc ga) (nR : NtR P mc ra) (lim : Nat) (hl : lim ≤ 500) : ∀ (left fuel : Nat) (I : IT) (s : MS), left < fuel → left ≤ lim → s.ok g r → PgI P I ga g → RowI P I ra r → MRep P I mc s (lim - left) →
    ∃ I', f_X1_execute_31 K P fuel I mc ga ra (lim : Int) = some ((runS g r left s).1, I') ∧ RowI P I' (P mc 1) (runS g r left s).2.2 ∧ I' mc 2 = ((lim - (runS g r left s).2.1 : Nat) : Int) ∧ FrM P mc I I' := by
  intro left
  induction left with
  | zero =>
    intro fuel I s hf hll hs hP hR h
    obtain ⟨n, rfl⟩ : ∃ n, fuel = n + 1 := ⟨fuel - 1, by omega⟩
    rw [runS_z]
    unfold f_X1_execute_31
    have e3 : I mc 3 = (s.nx : Int) := h.2.2.2.1
    have e2 : I ga 2 = (g.n : Int) := hP.1
    have e4 : I mc 2 = ((lim - 0 : Nat) : Int) := h.2.2.1
    unfold f_X1_execute_79
    rw [e3, e2]
    by_cases c : s.nx = g.n
    · rw [if_pos (by omega), if_pos (by omega), if_pos c]
      exact ⟨I, rfl, h.2.1, e4, fun b _ => rfl⟩
    · rw [if_neg (by omega), if_pos (by omega), if_neg (by omega), if_neg c]
      exact ⟨I, rfl, h.2.1, e4, fun b _ => rfl⟩
  | succ left ih =>
    intro fuel I s hf hll hs hP hR h
    obtain ⟨n, rfl⟩ : ∃ n, fuel = n + 1 := ⟨fuel - 1, by omega⟩
    rw [runS_s]
    unfold f_X1_execute_31
    have e3 : I mc 3 = (s.nx : Int) := h.2.2.2.1
    have e2 : I ga 2 = (g.n : Int) := hP.1
    have e4 : I mc 2 = ((lim - (left + 1) : Nat) : Int) := h.2.2.1
    by_cases c : s.nx = g.n
    · unfold f_X1_execute_79
      rw [e3, e2]
      rw [if_pos (by omega), if_pos (by omega), if_pos c]
      exact ⟨I, rfl, h.2.1, e4, fun b _ => rfl⟩
    · have hlt : s.nx < g.n := by have := hs.1; omega
      rw [if_neg (by omega), if_neg (by omega), if_neg c, bnd_e, e4]
      have h1 := h.ks hD (lim - left) (v := wr (((lim - (left + 1) : Nat) : Int) + 1)) (by rw [wr_id (by omega) (by omega)]; omega)
      generalize hI8 : up I mc 2 (wr (((lim - (left + 1) : Nat) : Int) + 1)) = I8 at h1 ⊢
      have f1 : FrM P mc I I8 := by rw [← hI8]; exact up_fr
      obtain ⟨I9, k1, k2, k3⟩ := e_step (K := K) hD hg hr hs hlt (hP.frM nP f1) (hR.frM nR f1) nP nR h1
      rw [k1, bi_s]
      have f2 := f1.tr k3
      by_cases c2 : (stepS g r s).1 = 0
      · rw [if_pos c2, if_pos c2]
        obtain ⟨I', u1, u2, u3, u4⟩ := ih n I9 (stepS g r s).2 (by omega) (by omega) (stepS_ok hg hr hs hlt) (hP.frM nP f2) (hR.frM nR f2) (k2.1 c2)
        exact ⟨I', u1, u2, u3, f2.tr u4⟩
      · rw [if_neg c2, if_neg c2]
        exact ⟨I9, rfl, (k2.2 c2).1, (k2.2 c2).2, f2⟩
theorem e_exec (hD : MD P mc) (hg : g.ok) (hr : r.ok) (nP : NtP P mc ga) (nR : NtR P mc ra) (lim : Nat) (hl : lim ≤ 500) (hP : PgI P I ga g) (hR : RowI P I ra r) :
    ∃ I', f_X1_execute K P I mc ga ra (lim : Int) = some ((runA g r lim).e, I') ∧ RowI P I' (P mc 1) (runA g r lim).o ∧ I' mc 2 = ((runA g r lim).k : Int) ∧ FrM P mc I I' := by
  unfold f_X1_execute
  simp only [bnd_e]
  obtain ⟨⟨d1, d2, d3, d4⟩, ⟨d5, d6, d7⟩, ⟨d8, d9⟩, d10⟩ := hD
  have hD : MD P mc := ⟨⟨d1, d2, d3, d4⟩, ⟨d5, d6, d7⟩, ⟨d8, d9⟩, d10⟩
  generalize hI : up (up (up (up (up I (P mc 0) 1 0) (P mc 1) 1 0) mc 2 0) mc 3 0) mc 4 0 = I5
  have f1 : FrM P mc I I5 := fun b hb => by
    rw [← hI, up_b (fun e => hb (Or.inl e)), up_b (fun e => hb (Or.inl e)), up_b (fun e => hb (Or.inl e)), up_b (fun e => hb (Or.inr (Or.inr (Or.inl e)))), up_b (fun e => hb (Or.inr (Or.inl e)))]
  have h1 : MRep P I5 mc ms0 (lim - lim) := by
    rw [← hI]
    refine ⟨⟨?_, fun j hj => absurd hj (Nat.not_lt_zero _)⟩, ⟨?_, fun j hj => absurd hj (Nat.not_lt_zero _)⟩, ?_, ?_, ?_⟩
    · rw [up_b d1, up_b d1, up_b d1, up_b (Ne.symm d5), up_s]; rfl
    · rw [up_b d2, up_b d2, up_b d2, up_s]; rfl
    · rw [up_k _ _ _ _ (by decide), up_k _ _ _ _ (by decide), up_s]; omega
    · rw [up_k _ _ _ _ (by decide), up_s]; rfl
    · rw [up_s]; rfl
  obtain ⟨I', u1, u2, u3, u4⟩ := e_loop (K := K) hD hg hr nP nR lim hl lim FU I5 ms0 (by unfold FU; omega) (Nat.le_refl _) ⟨Nat.zero_le _, Nat.zero_le _, Nat.zero_le _, Nat.zero_le _, fun j hj => absurd hj (Nat.not_lt_zero _)⟩ (hP.frM nP f1) (hR.frM nR f1) h1
  exact ⟨I', u1, u2, u3, f1.tr u4⟩
end EXE
