section XR2
variable {K : KT} {P : PT} {I : IT} {m k sl inp : Nat} {s : MS} {g : Pg} {r : Rw} {x3 x4 x5 : Int} {k26 : IT → Nat → Int → Int → Int → Int → Int → Option IT}
/-- what a step of the model comes to: on to the loop's head, with the new place -/
def XGo (P : PT) (I : IT) (m k sl inp : Nat) (s : MS) (x3 : Int) (k26 : IT → Nat → Int → Int → Int → Int → Int → Option IT) (z : Option IT) (q : Int × MS) : Prop :=
  ∃ (I' : IT) (a b : Int), z = k26 I' m sl inp x3 a b ∧ XSt P I' m k s q ∧ FrX P m I I' ∧ (q.1 = 0 → a = (q.2.nx : Int) ∧ b = (q.2.rd : Int))
theorem XSt.of {I' : IT} {s1 : MS} {q : Int × MS} (h : XSt P I' m k s1 q) (he : s1.ou = s.ou) : XSt P I' m k s q := ⟨h.1, h.2.1, h.2.2.1, fun h0 => by rw [← he]; exact h.2.2.2 h0⟩
theorem x_top {x6 x7 : Int} (h : XRep P I m s k) (h8 : s.st.n ≤ 8) : f_X8_runs_133 K P k26 I m sl inp x3 x4 x5 x6 x7 = f_X8_runs_180 K P k26 I m sl inp x3 x4 x5 x6 x7 (if s.st.n = 0 then 0 else s.st.f (s.st.n - 1)) (if s.st.n ≤ 1 then 0 else s.st.f (s.st.n - 2)) := by
  have e : I m 30 = (s.st.n : Int) := h.1.1
  have h2 := h.1.2
  unfold f_X8_runs_133 f_X8_runs_155
  rw [e]
  by_cases c : s.st.n = 0
  · rw [if_pos (by omega), if_pos (by omega), if_pos c, if_pos (by omega)]
  · rw [if_neg (by omega), if_neg c, wr_id (by omega) (by omega), ck_t (by omega), show ((s.st.n : Int) - 1).toNat = s.st.n - 1 by omega, h2 _ (by show s.st.n - 1 < s.st.n; omega)]
    by_cases c2 : s.st.n ≤ 1
    · rw [if_pos (by omega), if_pos c2]
    · rw [if_neg (by omega), if_neg c2, wr_id (by omega) (by omega), ck_t (by omega), show ((s.st.n : Int) - 2).toNat = s.st.n - 2 by omega, h2 _ (by show s.st.n - 2 < s.st.n; omega)]
theorem XRep.st30 (hX : XD P m) {n : Nat} {f : Nat → Int} {nx rd : Nat} {ou : Rw} {N : Nat} (h : XRep P I m (nx, rd, (N, f), ou) k) (hn : n ≤ N) {v : Int} (hv : v = (n : Int)) : XRep P (up I m 30 v) m (nx, rd, (n, f), ou) k :=
  ⟨⟨by rw [up_s]; exact hv, fun j hj => by rw [up_b (hX.1 29 (by decide))]; exact h.1.2 j (Nat.lt_of_lt_of_le hj hn)⟩, h.2.1.up (by decide) (hX.1 28 (by decide)), by rw [up_k _ _ _ _ (by decide)]; exact h.2.2.1, by rw [up_k _ _ _ _ (by decide)]; exact h.2.2.2⟩
/-- ADD, SUB, MUL -/
theorem x_make {w : Int} {n : Nat} {f : Nat → Int} {nx rd : Nat} {ou : Rw} (hX : XD P m) (h : XRep P I m (nx, rd, (n + 2, f), ou) k) (h8 : n + 2 ≤ 8) (hw : w = 2 ∨ w = 3 ∨ w = 4) (hs : -999998000001 ≤ mk3 w (f n) (f (n + 1)) ∧ mk3 w (f n) (f (n + 1)) ≤ 999998000001) :
    ∃ I', f_X8_runs_270 K P k26 I m sl inp x3 x4 x5 w (f (n + 1)) (f n) = k26 I' m sl inp x3 x4 x5 ∧ XSt P I' m k (nx, rd, (n + 2, f), ou) (MS.make (nx, rd, (n + 2, f), ou) w) ∧ FrX P m I I' := by
  have e : I m 30 = ((n + 2 : Nat) : Int) := h.1.1
  unfold f_X8_runs_270
  rw [bnd_e, e, wr_id (by omega) (by omega)]
  have h1 := h.st30 hX (n := n) (v := ((n + 2 : Nat) : Int) - 2) (by omega) (by omega)
  have f1 : FrX P m I (up I m 30 (((n + 2 : Nat) : Int) - 2)) := FrX.m (by decide)
  generalize up I m 30 (((n + 2 : Nat) : Int) - 2) = I1 at h1 f1 ⊢
  have hmk : MS.make (nx, rd, (n + 2, f), ou) w = MS.made (nx, rd, (n + 2, f), ou) (mk3 w (f n) (f (n + 1))) := by
    unfold MS.make
    rw [if_pos (by show 2 ≤ n + 2; omega)]
    rfl
  have key : ∃ I', bp (f_X8_makes K P I1 m (wl (mk3 w (f n) (f (n + 1))))) (fun I42 => f_X8_runs_497 K P k26 I42 m sl inp x3 x4 x5) = k26 I' m sl inp x3 x4 x5 ∧ XSt P I' m k (nx, rd, (n + 2, f), ou) (MS.make (nx, rd, (n + 2, f), ou) w) ∧ FrX P m I I' := by
    rw [hmk]
    generalize mk3 w (f n) (f (n + 1)) = z at hs ⊢
    unfold f_X8_makes f_X8_makes_16 MS.made f_X8_runs_497
    rw [wl_id (by omega) (by omega)]
    by_cases c : -999999 ≤ z ∧ z ≤ 999999
    · rw [if_neg (by rw [cmpl_gt]; omega), if_pos (by rw [cmpl_ge]; omega), wr_id (by omega) (by omega), if_pos c]
      obtain ⟨I2, k1, k2, k3⟩ := x_push (K := K) hX h1 (by show n ≤ 8; omega) (v := z) c
      rw [k1, bp_s, bp_s]
      refine ⟨I2, rfl, ?_, f1.tr k3⟩
      unfold MS.put at k2
      rw [if_pos (by show n < 8; omega)] at k2
      exact ⟨k2.1, k2.2.1, fun h0 => k2.2.2.1 h0, fun h0 => absurd rfl h0⟩
    · obtain ⟨q1, q2⟩ := x_fail hX h1 4 (by decide) (nx, rd, (n + 2, f), ou) FrX.rf
      rw [if_neg c]
      refine ⟨up I1 m 25 4, ?_, q1.of rfl, f1.tr q2⟩
      by_cases c1 : 999999 < z
      · rw [if_pos (cmpl_gt.mpr c1)]; rfl
      · rw [if_neg (by rw [cmpl_gt]; exact c1), if_neg (by rw [cmpl_ge]; omega)]; rfl
  rcases hw with rfl | rfl | rfl
  · rw [if_pos rfl]; exact key
  · rw [if_neg (by decide), if_pos rfl]; exact key
  · rw [if_neg (by decide), if_neg (by decide)]; exact key
/-- jumps -/
theorem x_go {v : Int} (hX : XD P m) (hP : XPg P I m sl g) (hsl : sl < 67) (h : XRep P I m s k) (hx5 : x5 = (s.rd : Int)) : XGo P I m k sl inp s x3 k26 (f_X8_runs_468 K P k26 I m sl inp x3 x5 v) (s.go g.n v) := by
  unfold f_X8_runs_468 f_X8_runs_494 f_X8_runs_497 MS.go
  rw [ck_t (by omega), Int.toNat_natCast, hP.1]
  unfold f_X8_isIn
  by_cases c : 0 ≤ v ∧ v ≤ (g.n : Int)
  · rw [if_neg (by omega), if_neg (by have := c.2; show ¬ (g.n : Int) < v; omega), bp_s, if_neg (by decide), if_pos c, bnd_e]
    have e25 : up I m 25 (I m 25) = I := by
      funext b j
      rw [up_apply]
      split
      · rename_i q; rw [q.1, q.2]
      · rfl
    refine ⟨_, v, x5, rfl, ?_, ?_, fun _ => ⟨?_, hx5⟩⟩
    · rw [e25]
      exact ⟨h.2.2.2, h.2.2.1, fun _ => ⟨h.1, h.2.1, h.2.2.1, h.2.2.2⟩, fun h0 => absurd rfl h0⟩
    · rw [e25]; exact FrX.rf
    · show v = ((v.toNat : Nat) : Int)
      omega
  · obtain ⟨q1, q2⟩ := x_fail hX h 4 (by decide) s FrX.rf
    rw [if_neg c]
    refine ⟨up I m 25 4, v, x5, ?_, q1, q2, fun h0 => absurd h0 (show ¬ (4 : Int) = 0 by decide)⟩
    by_cases c1 : v < 0
    · rw [if_pos c1, bp_s, if_pos rfl, bnd_e]
    · rw [if_neg c1, if_pos (by show (g.n : Int) < v; omega), bp_s, if_pos rfl, bnd_e]
end XR2
