abbrev MS.n1 (s : MS) : Nat := s.st.n
abbrev MS.ou1 (s : MS) : Nat := s.ou.n
section XR3
variable {K : KT} {P : PT} {I : IT} {m k sl inp : Nat} {s : MS} {g : Pg} {r : Rw} {x3 x4 x5 : Int} {k26 : IT → Nat → Int → Int → Int → Int → Int → Option IT}
/-- what a step needs on the stack -/
def nd (w : Int) : Nat := if w = 2 then 2 else if w = 3 then 2 else if w = 4 then 2 else if w = 6 then 2 else if w = 5 then 1 else if w = 7 then 1 else if w = 9 then 1 else 0
theorem x_needs {w : Int} : f_X8_needs K P I w = some (nd w : Int) := by
  unfold f_X8_needs nd
  repeat' split
  all_goals rfl
/-- a step that lacks numbers on the stack, or an input, crashes -/
theorem step_lacks {s : MS} (h9 : 0 ≤ g.s s.nx ∧ g.s s.nx ≤ 9) (h : s.st.n < nd (g.s s.nx) ∨ g.s s.nx = 0 ∧ ¬ s.rd < r.n) : ∃ s2, stepS g r s = (4, s2) := by
  unfold stepS
  dsimp only
  generalize g.s s.nx = w at h h9 ⊢
  generalize g.v s.nx = v
  have hc : w = 0 ∨ w = 1 ∨ w = 2 ∨ w = 3 ∨ w = 4 ∨ w = 5 ∨ w = 6 ∨ w = 7 ∨ w = 8 ∨ w = 9 := by omega
  rcases hc with rfl | rfl | rfl | rfl | rfl | rfl | rfl | rfl | rfl | rfl
  · rcases h with h | h
    · exact absurd h (Nat.not_lt_zero _)
    · rw [if_pos rfl, if_neg h.2]; exact ⟨_, rfl⟩
  · rcases h with h | h
    · exact absurd h (Nat.not_lt_zero _)
    · exact absurd h.1 (by decide)
  · have h : s.st.n < 2 := h.resolve_right (fun q => absurd q.1 (by decide))
    rw [if_neg (by decide), if_neg (by decide), if_pos (by decide)]; unfold MS.make; rw [if_neg (by show ¬ 2 ≤ s.st.n; omega)]; exact ⟨_, rfl⟩
  · have h : s.st.n < 2 := h.resolve_right (fun q => absurd q.1 (by decide))
    rw [if_neg (by decide), if_neg (by decide), if_pos (by decide)]; unfold MS.make; rw [if_neg (by show ¬ 2 ≤ s.st.n; omega)]; exact ⟨_, rfl⟩
  · have h : s.st.n < 2 := h.resolve_right (fun q => absurd q.1 (by decide))
    rw [if_neg (by decide), if_neg (by decide), if_pos (by decide)]; unfold MS.make; rw [if_neg (by show ¬ 2 ≤ s.st.n; omega)]; exact ⟨_, rfl⟩
  · have h : s.st.n < 1 := h.resolve_right (fun q => absurd q.1 (by decide))
    rw [if_neg (by decide), if_neg (by decide), if_neg (by decide), if_pos (by decide), if_neg (by show ¬ 1 ≤ s.st.n; omega)]; exact ⟨_, rfl⟩
  · have h : s.st.n < 2 := h.resolve_right (fun q => absurd q.1 (by decide))
    rw [if_neg (by decide), if_neg (by decide), if_neg (by decide), if_neg (by decide), if_pos (by decide)]; unfold MS.swap; rw [if_neg (by show ¬ 2 ≤ s.st.n; omega)]; exact ⟨_, rfl⟩
  · have h : s.st.n < 1 := h.resolve_right (fun q => absurd q.1 (by decide))
    rw [if_neg (by decide), if_neg (by decide), if_neg (by decide), if_neg (by decide), if_neg (by decide), if_pos (by decide), if_neg (by show ¬ 1 ≤ s.st.n; omega)]; exact ⟨_, rfl⟩
  · rcases h with h | h
    · exact absurd h (Nat.not_lt_zero _)
    · exact absurd h.1 (by decide)
  · have h : s.st.n < 1 := h.resolve_right (fun q => absurd q.1 (by decide))
    rw [if_neg (by decide), if_neg (by decide), if_neg (by decide), if_neg (by decide), if_neg (by decide), if_neg (by decide), if_neg (by decide)]; unfold MS.print; rw [if_neg (by show ¬ 1 ≤ s.st.n; omega)]; exact ⟨_, rfl⟩
theorem XRep.swap2 (hX : XD P m) (h : XRep P I m s k) {i : Nat} {v : Int} : XRep P (up I (P m 29) i v) m (s.stt (s.st.n, updf s.st.f i v)) k := by
  have h29 := Ne.symm (hX.1 29 (by decide))
  refine ⟨⟨by rw [up_b h29]; exact h.1.1, fun j hj => ?_⟩, ⟨by rw [up_b h29]; exact h.2.1.1, fun j hj => ?_⟩, by rw [up_b h29]; exact h.2.2.1, by rw [up_b h29]; exact h.2.2.2⟩
  · show _ = updf s.st.f i v j
    rw [up_apply]
    unfold updf
    by_cases c : j = i
    · rw [if_pos ⟨rfl, c⟩, if_pos c]
    · rw [if_neg (fun q => c q.2), if_neg c]; exact h.1.2 j hj
  · rw [up_b (hX.2 28 29 (by decide) (by decide) (by decide))]; exact h.2.1.2 j hj
theorem x_print (hX : XD P m) {n : Nat} {f : Nat → Int} {nx rd : Nat} {ou : Rw} (h : XRep P I m (nx, rd, (n + 1, f), ou) k) (h8 : n + 1 ≤ 8) (ho : ou.1 ≤ 8) :
    ∃ I', (bnd (up I m 30 (wr (I m 30 - 1))) fun I32 => if I32 m 27 = 8 then f_X8_runs_392 K P k26 I32 m sl inp x3 x4 x5 (f n) 3 m else f_X8_runs_392 K P k26 I32 m sl inp x3 x4 x5 (f n) (I32 m 25) m) = k26 I' m sl inp x3 x4 x5 ∧ XSt P I' m k (nx, rd, (n + 1, f), ou) (MS.print (nx, rd, (n + 1, f), ou)) ∧ FrX P m I I' := by
  have e : I m 30 = ((n + 1 : Nat) : Int) := h.1.1
  rw [bnd_e, e, wr_id (by omega) (by omega)]
  have h1 := h.st30 hX (n := n) (v := ((n + 1 : Nat) : Int) - 1) (by omega) (by omega)
  have f1 : FrX P m I (up I m 30 (((n + 1 : Nat) : Int) - 1)) := FrX.m (by decide)
  generalize up I m 30 (((n + 1 : Nat) : Int) - 1) = I1 at h1 f1 ⊢
  have e27 : I1 m 27 = (ou.1 : Int) := h1.2.1.1
  have e25 : up I1 m 25 (I1 m 25) = I1 := by
    funext b j
    rw [up_apply]
    split
    · rename_i q; rw [q.1, q.2]
    · rfl
  unfold f_X8_runs_392 f_X8_runs_497 MS.print
  rw [if_pos (show 1 ≤ MS.n1 (nx, rd, (n + 1, f), ou) by show 1 ≤ n + 1; omega)]
  by_cases c : ou.1 < 8
  · rw [if_neg (by omega), e25, bnd_e, e27, if_neg (by omega), ck_t (by omega), bnd_e, bnd_e, Int.toNat_natCast, if_pos (show MS.ou1 (nx, rd, (n + 1, f), ou) < 8 from c)]
    have h28 := Ne.symm (hX.1 28 (by decide))
    refine ⟨_, rfl, ⟨?_, ?_, fun _ => ⟨⟨?_, fun j hj => ?_⟩, ⟨?_, fun j hj => ?_⟩, ?_, ?_⟩, fun h0 => absurd rfl h0⟩, ?_⟩
    · rw [up_k _ _ _ _ (by decide), up_b h28]; exact h1.2.2.2
    · rw [up_k _ _ _ _ (by decide), up_b h28]; exact h1.2.2.1
    · rw [up_k _ _ _ _ (by decide), up_b h28]; exact h1.1.1
    · rw [up_b (hX.1 29 (by decide)), up_b (hX.2 29 28 (by decide) (by decide) (by decide))]; exact h1.1.2 j hj
    · rw [up_s, up_b h28, e27, wr_id (by omega) (by omega)]; rfl
    · have hj : j < ou.1 + 1 := hj
      rw [up_b (hX.1 28 (by decide)), up_apply]
      show _ = updf ou.2 ou.1 (f n) j
      unfold updf
      by_cases c : j = ou.1
      · rw [if_pos ⟨rfl, c⟩, if_pos c]
      · rw [if_neg (fun q => c q.2), if_neg c]; exact h1.2.1.2 j (by show j < ou.1; omega)
    · rw [up_k _ _ _ _ (by decide), up_b h28]; exact h1.2.2.1
    · rw [up_k _ _ _ _ (by decide), up_b h28]; exact h1.2.2.2
    · exact f1.tr ((FrX.a hX (Or.inl rfl)).tr (FrX.m (by decide)))
  · rw [if_pos (by omega), bnd_e, up_k _ _ _ _ (by decide), if_pos (by omega), if_neg (show ¬ MS.ou1 (nx, rd, (n + 1, f), ou) < 8 from c)]
    obtain ⟨q1, q2⟩ := x_fail hX h1 3 (by decide) (nx, rd, (n + 1, f), ou) FrX.rf
    exact ⟨_, rfl, q1.of rfl, f1.tr q2⟩
theorem x_step (hX : XD P m) (hg : g.ok) (hr : r.ok) (hs : s.ok g r) (hn : s.nx < g.n) (hP : XPg P I m sl g) (hR : XIn P I m inp r) (hsl : sl < 67) (hin : inp < 73) (h : XRep P I m s k) (hx4 : x4 = ((s.nx + 1 : Nat) : Int)) (hx5 : x5 = (s.rd : Int)) (hne : ¬ s.st.n < nd (g.s s.nx)) (hrd : g.s s.nx = 0 → s.rd < r.n) :
    XGo P I m k sl inp s x3 k26 (f_X8_runs_133 K P k26 I m sl inp x3 x4 x5 (g.s s.nx) (g.v s.nx)) (stepS g r s) := by
  have h8 : s.st.n ≤ 8 := hs.2.2.1
  have h9 := (hg.2 s.nx hn).1
  have hv := (hg.2 s.nx hn).2
  have hb := hs.2.2.2.2
  rw [x_top h h8]
  generalize hT : (if s.st.n = 0 then 0 else s.st.f (s.st.n - 1)) = T
  generalize hB : (if s.st.n ≤ 1 then 0 else s.st.f (s.st.n - 2)) = Bw
  have h1 : XRep P I m (s.nxt (s.nx + 1)) k := h
  unfold stepS
  dsimp only
  generalize hw : g.s s.nx = w at h9 hne hrd ⊢
  generalize hvv : g.v s.nx = v at hv ⊢
  have hc : w = 0 ∨ w = 1 ∨ (w = 2 ∨ w = 3 ∨ w = 4) ∨ w = 5 ∨ w = 6 ∨ w = 7 ∨ w = 8 ∨ w = 9 := by omega
  unfold f_X8_runs_180
  rcases hc with rfl | rfl | hc | rfl | rfl | rfl | rfl | rfl
  · have hrd := hrd rfl
    have hr4 : r.n ≤ 4 := hr.1
    rw [if_pos rfl, if_pos rfl, if_pos hrd, hx5, wr_id (x := 4 * (inp : Int)) (by omega) (by omega), wr_id (by omega) (by omega), ck_t (by omega), show (4 * (inp : Int) + (s.rd : Int)).toNat = 4 * inp + s.rd by omega, hR.2 s.rd hrd]
    have hb9 := hr.2 s.rd hrd
    have h2 : XRep P I m ((s.nxt (s.nx + 1)).rdt (s.rd + 1)) k := h
    obtain ⟨I', k1, k2, k3⟩ := x_push (K := K) hX h2 h8 (v := r.f s.rd) (rng9 hb9)
    rw [k1, bp_s]
    unfold f_X8_runs_497
    refine ⟨I', x4, wr ((s.rd : Int) + 1), rfl, k2.of rfl, k3, fun h0 => ?_⟩
    unfold MS.put at h0 ⊢
    by_cases c : s.st.n < 8
    · rw [if_pos c]; exact ⟨hx4, wr_id (by omega) (by omega)⟩
    · rw [if_neg c] at h0; exact absurd h0 (show ¬ (3 : Int) = 0 by decide)
  · rw [if_neg (by decide), if_pos rfl, if_neg (by decide), if_pos rfl]
    obtain ⟨I', k1, k2, k3⟩ := x_push (K := K) hX h1 h8 (v := v) ⟨by omega, by omega⟩
    rw [k1, bp_s]
    unfold f_X8_runs_497
    refine ⟨I', x4, x5, rfl, k2.of rfl, k3, fun h0 => ?_⟩
    unfold MS.put at h0 ⊢
    by_cases c : s.st.n < 8
    · rw [if_pos c]; exact ⟨hx4, hx5⟩
    · rw [if_neg c] at h0; exact absurd h0 (show ¬ (3 : Int) = 0 by decide)
  · have h2 : 2 ≤ s.st.n := by
      rcases hc with rfl | rfl | rfl <;> (unfold nd at hne; simp at hne; omega)
    obtain ⟨nx, rd, ⟨n, f⟩, ou⟩ := s
    obtain ⟨q, rfl⟩ : ∃ q, n = q + 2 := ⟨n - 2, by have : 2 ≤ n := h2; omega⟩
    have h8 : q + 2 ≤ 8 := h8
    have hb1 := hb q (by show q < q + 2; omega)
    have hb2 := hb (q + 1) (by show q + 1 < q + 2; omega)
    have hm := mk3_small (w := w) hb1 hb2
    obtain ⟨I', k1, k2, k3⟩ := x_make (K := K) (sl := sl) (inp := inp) (x3 := x3) (x4 := x4) (x5 := x5) (k26 := k26) hX h1 h8 hc hm
    have key : XGo P I m k sl inp (nx, rd, (q + 2, f), ou) x3 k26 (f_X8_runs_270 K P k26 I m sl inp x3 x4 x5 w (f (q + 1)) (f q)) ((MS.nxt (nx, rd, (q + 2, f), ou) (nx + 1)).make w) := by
      refine ⟨I', x4, x5, k1, k2.of rfl, k3, fun h0 => ?_⟩
      unfold MS.make MS.made at h0 ⊢
      rw [if_pos (show 2 ≤ q + 2 by omega)] at h0 ⊢
      by_cases c : -999999 ≤ mk3 w (f q) (f (q + 1)) ∧ mk3 w (f q) (f (q + 1)) ≤ 999999
      · have c' : -999999 ≤ mk3 w (f (q + 2 - 2)) (f (q + 2 - 1)) ∧ mk3 w (f (q + 2 - 2)) (f (q + 2 - 1)) ≤ 999999 := c
        refine ⟨?_, ?_⟩
        · show x4 = (((if -999999 ≤ mk3 w (f (q + 2 - 2)) (f (q + 2 - 1)) ∧ mk3 w (f (q + 2 - 2)) (f (q + 2 - 1)) ≤ 999999 then _ else _ : Int × MS).2.nx : Nat) : Int)
          rw [if_pos c']; exact hx4
        · show x5 = (((if -999999 ≤ mk3 w (f (q + 2 - 2)) (f (q + 2 - 1)) ∧ mk3 w (f (q + 2 - 2)) (f (q + 2 - 1)) ≤ 999999 then _ else _ : Int × MS).2.rd : Nat) : Int)
          rw [if_pos c']; exact hx5
      · have c' : ¬ (-999999 ≤ mk3 w (f (q + 2 - 2)) (f (q + 2 - 1)) ∧ mk3 w (f (q + 2 - 2)) (f (q + 2 - 1)) ≤ 999999) := c
        have h0 : (if -999999 ≤ mk3 w (f (q + 2 - 2)) (f (q + 2 - 1)) ∧ mk3 w (f (q + 2 - 2)) (f (q + 2 - 1)) ≤ 999999 then _ else (4, _) : Int × MS).1 = 0 := h0
        rw [if_neg c'] at h0; exact absurd h0 (show ¬ (4 : Int) = 0 by decide)
    have n0 : w ≠ 0 := by omega
    have n1 : w ≠ 1 := by omega
    rw [if_neg n0, if_neg n1, if_neg n0, if_neg n1, if_pos hc]
    rw [show T = f (q + 1) from hT.symm.trans (if_neg (show ¬ q + 2 = 0 by omega)), show Bw = f q from hB.symm.trans (if_neg (show ¬ q + 2 ≤ 1 by omega))]
    rcases hc with rfl | rfl | rfl
    · rw [if_pos rfl]; exact key
    · rw [if_neg (by decide), if_pos rfl]; exact key
    · rw [if_neg (by decide), if_neg (by decide), if_pos rfl]; exact key
  · have h2 : 1 ≤ s.st.n := by unfold nd at hne; simp at hne; omega
    rw [if_neg (by decide), if_neg (by decide), if_neg (by decide), if_neg (by decide), if_neg (by decide), if_pos rfl, if_neg (by decide), if_neg (by decide), if_neg (by decide), if_pos rfl, if_pos h2, show T = s.st.f (s.st.n - 1) from hT.symm.trans (if_neg (by omega))]
    obtain ⟨I', k1, k2, k3⟩ := x_push (K := K) hX h1 h8 (v := s.st.f (s.st.n - 1)) (hb _ (by show s.st.n - 1 < s.st.n; omega))
    rw [k1, bp_s]
    unfold f_X8_runs_497
    refine ⟨I', x4, x5, rfl, k2.of rfl, k3, fun h0 => ?_⟩
    unfold MS.put at h0 ⊢
    by_cases c : s.st.n < 8
    · rw [if_pos c]; exact ⟨hx4, hx5⟩
    · rw [if_neg c] at h0; exact absurd h0 (show ¬ (3 : Int) = 0 by decide)
  · have h2 : 2 ≤ s.st.n := by unfold nd at hne; simp at hne; omega
    rw [if_neg (by decide), if_neg (by decide), if_neg (by decide), if_neg (by decide), if_neg (by decide), if_neg (by decide), if_pos rfl, if_neg (by decide), if_neg (by decide), if_neg (by decide), if_neg (by decide), if_pos rfl]
    have e : I m 30 = (s.st.n : Int) := h.1.1
    have h29 := Ne.symm (hX.1 29 (by decide))
    rw [e, wr_id (by omega) (by omega), ck_t (by omega), bnd_e, up_b h29, e, wr_id (by omega) (by omega), ck_t (by omega), bnd_e, show T = s.st.f (s.st.n - 1) from hT.symm.trans (if_neg (by omega)), show Bw = s.st.f (s.st.n - 2) from hB.symm.trans (if_neg (by omega)), show ((s.st.n : Int) - 1).toNat = s.st.n - 1 by omega, show ((s.st.n : Int) - 2).toNat = s.st.n - 2 by omega]
    have q1 := (h1.swap2 hX (i := s.st.n - 1) (v := s.st.f (s.st.n - 2))).swap2 hX (i := s.st.n - 2) (v := s.st.f (s.st.n - 1))
    unfold f_X8_runs_497 MS.swap
    rw [if_pos h2]
    refine ⟨_, x4, x5, rfl, ⟨q1.2.2.2, q1.2.2.1, fun _ => ?_, fun h0 => absurd rfl h0⟩, (FrX.a hX (Or.inr rfl)).tr (FrX.a hX (Or.inr rfl)), fun _ => ⟨hx4, hx5⟩⟩
    refine ⟨⟨q1.1.1, fun j hj => (q1.1.2 j hj).trans ?_⟩, q1.2⟩
    show updf (updf s.st.f (s.st.n - 1) (s.st.f (s.st.n - 2))) (s.st.n - 2) (s.st.f (s.st.n - 1)) j = updf (updf s.st.f (s.st.n - 2) (s.st.f (s.st.n - 1))) (s.st.n - 1) (s.st.f (s.st.n - 2)) j
    unfold updf
    by_cases c1 : j = s.st.n - 1
    · rw [if_neg (by omega), if_pos c1, if_pos c1]
    · rw [if_neg c1, if_neg c1]
  · have h2 : 1 ≤ s.st.n := by unfold nd at hne; simp at hne; omega
    rw [if_neg (by decide), if_neg (by decide), if_neg (by decide), if_neg (by decide), if_neg (by decide), if_neg (by decide), if_neg (by decide), if_pos rfl, if_neg (by decide), if_neg (by decide), if_neg (by decide), if_neg (by decide), if_neg (by decide), if_pos rfl, if_pos h2, show T = s.st.f (s.st.n - 1) from hT.symm.trans (if_neg (by omega))]
    unfold f_X8_runs_428 f_X8_runs_445
    rw [if_pos rfl, bnd_e, show I m 30 = (s.st.n : Int) from h.1.1, wr_id (by omega) (by omega), if_neg (by decide)]
    obtain ⟨nx, rd, ⟨n, f⟩, ou⟩ := s
    have hp := XRep.st30 hX (n := n - 1) (v := (n : Int) - 1) h1 (by omega) (by have : 1 ≤ n := h2; omega)
    have f1 : FrX P m I (up I m 30 ((n : Int) - 1)) := FrX.m (by decide)
    show XGo P I m k sl inp _ x3 k26 (if f (n - 1) = 0 then f_X8_runs_461 K P k26 (up I m 30 ((n : Int) - 1)) m sl inp x3 x5 v else f_X8_runs_468 K P k26 (up I m 30 ((n : Int) - 1)) m sl inp x3 x5 x4) (if f (n - 1) = 0 then _ else _)
    generalize up I m 30 ((n : Int) - 1) = I1 at hp f1 ⊢
    have hP1 := hP.fr hX f1
    by_cases c : f (n - 1) = 0
    · rw [if_pos c, if_pos c]
      unfold f_X8_runs_461
      obtain ⟨I', a, b, u1, u2, u3, u4⟩ := x_go (K := K) (x3 := x3) (k26 := k26) (inp := inp) (v := v) hX hP1 hsl hp hx5
      exact ⟨I', a, b, u1, u2.of rfl, f1.tr u3, u4⟩
    · rw [if_neg c, if_neg c]
      obtain ⟨I', a, b, u1, u2, u3, u4⟩ := x_go (K := K) (x3 := x3) (k26 := k26) (inp := inp) (v := x4) hX hP1 hsl hp hx5
      have hn : nx < g.n := hn
      have hgo : MS.go (nx + 1, rd, (n - 1, f), ou) g.n x4 = (0, ((nx + 1, rd, (n - 1, f), ou) : MS)) := by
        unfold MS.go
        rw [if_pos (by rw [hx4]; show 0 ≤ ((nx + 1 : Nat) : Int) ∧ ((nx + 1 : Nat) : Int) ≤ (g.n : Int); omega), hx4]
        rfl
      rw [hgo] at u2 u4
      exact ⟨I', a, b, u1, u2.of rfl, f1.tr u3, u4⟩
  · rw [if_neg (by decide), if_neg (by decide), if_neg (by decide), if_neg (by decide), if_neg (by decide), if_neg (by decide), if_neg (by decide), if_neg (by decide), if_pos rfl, if_neg (by decide), if_neg (by decide), if_neg (by decide), if_neg (by decide), if_neg (by decide), if_neg (by decide), if_pos rfl]
    unfold f_X8_runs_428 f_X8_runs_445 f_X8_runs_461
    have e30 : up I m 30 (wr (I m 30 - 0)) = I := by
      have : wr (I m 30 - 0) = I m 30 := by rw [show I m 30 = (s.st.n : Int) from h.1.1, wr_id (by omega) (by omega)]; omega
      rw [this]
      funext b j
      rw [up_apply]
      split
      · rename_i q; rw [q.1, q.2]
      · rfl
    rw [if_neg (by decide), bnd_e, e30, if_pos rfl]
    obtain ⟨I', a, b, u1, u2, u3, u4⟩ := x_go (K := K) (x3 := x3) (k26 := k26) (inp := inp) (v := v) hX hP hsl h1 hx5
    exact ⟨I', a, b, u1, u2.of rfl, u3, u4⟩
  · have h2 : 1 ≤ s.st.n := by unfold nd at hne; simp at hne; omega
    rw [if_neg (by decide), if_neg (by decide), if_neg (by decide), if_neg (by decide), if_neg (by decide), if_neg (by decide), if_neg (by decide), if_neg (by decide), if_neg (by decide), if_pos rfl, if_neg (by decide), if_neg (by decide), if_neg (by decide), if_neg (by decide), if_neg (by decide), if_neg (by decide), if_neg (by decide), show T = s.st.f (s.st.n - 1) from hT.symm.trans (if_neg (by omega))]
    obtain ⟨nx, rd, ⟨n, f⟩, ou⟩ := s
    obtain ⟨q, rfl⟩ : ∃ q, n = q + 1 := ⟨n - 1, by have : 1 ≤ n := h2; omega⟩
    obtain ⟨I', k1, k2, k3⟩ := x_print (K := K) (sl := sl) (inp := inp) (x3 := x3) (x4 := x4) (x5 := x5) (k26 := k26) hX h1 h8 hs.2.2.2.1
    refine ⟨I', x4, x5, k1, k2.of rfl, k3, fun h0 => ?_⟩
    unfold MS.print at h0 ⊢
    have h21 : 1 ≤ q + 1 := h2
    rw [if_pos (show 1 ≤ MS.n1 (nx + 1, rd, (q + 1, f), ou) from h21)] at h0 ⊢
    by_cases c : ou.1 < 8
    · rw [if_pos (show MS.ou1 (nx + 1, rd, (q + 1, f), ou) < 8 from c)]; exact ⟨hx4, hx5⟩
    · rw [if_neg (show ¬ MS.ou1 (nx + 1, rd, (q + 1, f), ou) < 8 from c)] at h0; exact absurd h0 (show ¬ (3 : Int) = 0 by decide)
end XR3
