theorem t0n : (0 : Int).toNat = 0 := rfl
theorem t72n : (72 : Int).toNat = 72 := rfl
section CL3
variable {tg : Tg} {K : KT} {P : PT} {I : IT} {x m a t i c : Nat} {s : Hl} {ks : List Nat}
theorem x_input {v : Int} (h : MH tg P I m s) (hs : s.ok) : MOut tg P m [1, 2] I (f_X8_input K P I m v) (inputS s v) := by
  have hX := h.1.xd
  have e0 : I (P m 4) 72 = (s.din.n : Int) := h.2.2.1.2.1
  have bad : ∀ v2 : Int, 0 < v2 → f_X8_input_32 K P I m v v2 m = some (0, up I m 38 v2) := fun v2 hv => by
    unfold f_X8_input_32
    rw [bnd_e, up_s, if_neg (by omega)]
  have hd4 : s.din.n ≤ 4 := hs.2.1.1
  unfold f_X8_input inputS
  rw [x_isIn, bp_s]
  by_cases c1 : -9 ≤ v ∧ v ≤ 9
  · rw [if_pos c1, if_neg (by decide), if_pos c1, t72n, e0]
    by_cases c3 : s.din.n < 4
    · rw [if_neg (by omega), if_pos c3]
      obtain ⟨h1, f1⟩ := h.thr hs (v := 0)
      unfold f_X8_input_32
      rw [bnd_e, up_s, if_pos (by decide), t72n]
      have e1 : up I m 38 0 (P m 4) 72 = (s.din.n : Int) := h1.2.2.1.2.1
      have e38 : up I m 38 0 m 38 = 0 := up_s _ _ _ _
      have hx := h1.2.2.1.2
      generalize up I m 38 0 = I1 at h1 f1 e1 e38 hx ⊢
      have d45 := hX.2 4 5 (by decide) (by decide) (by decide)
      have en : (288 + (s.din.n : Int)).toNat = 288 + s.din.n := by omega
      rw [e1, wr_id (by omega) (by omega), ck_t (by omega), bnd_e, bnd_e, up_b d45, e1, up_s, wr_id (by omega) (by omega), en]
      refine ⟨_, _, rfl, fun _ => rfl, ?_, ?_, ?_⟩
      · rw [up_b (Ne.symm (hX.1 4 (by decide))), up_b (Ne.symm (hX.1 5 (by decide)))]; exact e38
      · refine h1.din hs ⟨by rw [up_s]; rfl, fun j hj => ?_⟩ ((FrW.u1 hX (by decide) (Or.inr ⟨rfl, by omega⟩)).tr (FrW.u1 hX (by decide) (Or.inl ⟨rfl, rfl⟩))) (fun j _ => ?_)
        · have hj : j < s.din.n + 1 := hj
          rw [up_b (Ne.symm d45), up_apply]
          show _ = updf s.din.f s.din.n v j
          unfold updf
          by_cases q : j = s.din.n
          · rw [if_pos ⟨rfl, by omega⟩, if_pos q]
          · rw [if_neg (fun e => q (by omega)), if_neg q]; exact hx.2 j (by show j < s.din.n; omega)
        · rw [up_b (Ne.symm (hX.1 4 (by decide))), up_b (Ne.symm (hX.1 5 (by decide)))]
      · exact f1.tr ((FrT.up (by rw [h.1.2 5 (by decide)]; decide)).tr (FrT.up (by rw [h.1.2 4 (by decide)]; decide)))
    · rw [if_pos (by omega), if_neg c3, bad 2 (by decide)]
      exact MOut.bad (by decide) rfl h hs rfl
  · rw [if_neg c1, if_pos rfl, if_neg c1, bad 1 (by decide)]
    exact MOut.bad (by decide) rfl h hs rfl
theorem x_clear (h : MH tg P I m s) (hs : s.ok) : ∃ I', f_X8_clear K P I m = some ((clearS s).2.1, I') ∧ I' m 38 = 0 ∧ MH tg P I' m (clearS s).2.2 ∧ FrT tg (fun u => 11 ≤ u.1) I I' := by
  have hX := h.1.xd
  obtain ⟨h1, f1⟩ := h.thr hs (v := 0)
  have e38 : up I m 38 0 m 38 = 0 := up_s _ _ _ _
  unfold f_X8_clear f_X8_empties
  rw [bnd_e]
  generalize up I m 38 0 = I1 at h1 f1 e38 ⊢
  rw [ck_t (by decide), bnd_e, bp_s, bnd_e, t0n, t72n, h1.2.2.1.1.1]
  have q1 : MH tg P (up I1 (P m 1) 0 0) m (s.sDesk (0, s.desk.2)) := h1.desk hs ⟨by rw [up_s]; rfl, fun j hj => absurd hj (Nat.not_lt_zero _)⟩ (FrW.u1 hX (by decide) (Or.inr ⟨rfl, rfl⟩)) (fun j _ => by rw [up_b (Ne.symm (hX.1 1 (by decide)))])
  have o1 : (s.sDesk (0, s.desk.2)).ok := ⟨⟨Nat.zero_le _, fun j hj => absurd hj (Nat.not_lt_zero _)⟩, hs.2⟩
  refine ⟨_, rfl, ?_, q1.din o1 ⟨by rw [up_s]; rfl, fun j hj => absurd hj (Nat.not_lt_zero _)⟩ (FrW.u1 hX (by decide) (Or.inl ⟨rfl, rfl⟩)) (fun j _ => by rw [up_b (Ne.symm (hX.1 4 (by decide)))]), f1.tr ((FrT.up (by rw [h.1.2 1 (by decide)]; decide)).tr (FrT.up (by rw [h.1.2 4 (by decide)]; decide)))⟩
  rw [up_b (Ne.symm (hX.1 4 (by decide))), up_b (Ne.symm (hX.1 1 (by decide)))]; exact e38
/-- a run of the model, its throw noted before -/
theorem x_runM {sl inp : Nat} {g : Pg} {r : Rw} (h : MH tg P I m s) (hs : s.ok) (hg : g.ok) (hr : r.ok) (hsl : sl < 67) (hin : inp < 73) (lim : Nat) (hl : lim ≤ 500) (hP : XPg P I m sl g) (hR : XIn P I m inp r) :
    ∃ I', f_X8_runs K P I m sl inp (lim : Int) = some I' ∧ I' m 25 = (runA g r lim).e ∧ XRow P I' m 27 28 (runA g r lim).o ∧ I' m 26 = ((runA g r lim).k : Int) ∧ MH tg P I' m s ∧ I' m 38 = I m 38 ∧ FrY tg m I I' := by
  obtain ⟨I', u1, u2, u3, u4, u5⟩ := x_runs (K := K) h.1.xd hg hr hsl hin lim hl hP hR
  exact ⟨I', u1, u2, u3, u4, h.y hs (u5.y h.1), u5.2 38 (by decide) (by decide) (by decide) (by decide), u5.y h.1⟩
theorem x_run {lim w : Int} (h : MH tg P I m s) (hs : s.ok) : MOut tg P m [1] I (f_X8_run K P I m lim w) (callRun s lim w) := by
  have bad : f_X8_run_27 K P I m lim w 1 m = some (0, up I m 38 1) := by
    unfold f_X8_run_27
    rw [bnd_e, up_s, if_neg (by decide)]
  unfold f_X8_run callRun f_X8_run_26
  rw [x_isIn, bp_s]
  by_cases c1 : 1 ≤ lim ∧ lim ≤ 500
  · rw [if_pos c1, if_neg (by decide), x_isIn, bp_s]
    by_cases c2 : 0 ≤ w ∧ w ≤ 10
    · rw [if_pos c2, if_neg (by decide), if_pos (show (1 ≤ lim ∧ lim ≤ 500) ∧ (0 ≤ w ∧ w ≤ 10) from ⟨c1, c2⟩)]
      obtain ⟨h1, f1⟩ := h.thr hs (v := 0)
      unfold f_X8_run_27
      rw [bnd_e, up_s, if_pos (by decide)]
      have e38 : up I m 38 0 m 38 = 0 := up_s _ _ _ _
      generalize up I m 38 0 = I1 at h1 f1 e38 ⊢
      obtain ⟨I', u1, u2, u3, u4, u5, u6, u7⟩ := x_runM (K := K) h1 hs hs.1 hs.2.1 (sl := 0) (inp := 72) (by decide) (by decide) lim.toNat (by omega) h1.2.2.1.1 h1.2.2.1.2
      rw [show ((lim.toNat : Nat) : Int) = lim by omega] at u1
      have ho := (runA_ou hs.1 hs.2.1 lim.toNat).1
      show MOut tg P m [1] I (bp (f_X8_runs K P I1 m (0 : Nat) (72 : Nat) lim) _) _
      rw [u1, bp_s]
      refine ⟨runV (runA s.desk s.din lim.toNat) w, I', ?_, fun _ => rfl, by rw [u6]; exact e38, u5, f1.tr (u7.t h1.1)⟩
      unfold runV
      by_cases w0 : w = 0
      · rw [if_pos w0, if_pos w0, u2]
      rw [if_neg w0, if_neg w0]
      by_cases w1 : w = 1
      · rw [if_pos w1, if_pos w1, u4]
      rw [if_neg w1, if_neg w1, u3.1]
      by_cases w2 : w = 2
      · rw [if_pos w2, if_pos w2]
      rw [if_neg w2, if_neg w2, wr_id (by omega) (by omega)]
      by_cases c : w - 3 < ((runA s.desk s.din lim.toNat).o.n : Int)
      · rw [if_pos c, if_neg (by show ¬ ((runA s.desk s.din lim.toNat).o.n : Int) ≤ w - 3; omega), ck_t (by have : (runA s.desk s.din lim.toNat).o.n ≤ 8 := ho; omega), u3.2 _ (by show (w - 3).toNat < (runA s.desk s.din lim.toNat).o.n; omega)]
      · rw [if_neg c, if_pos (by show ((runA s.desk s.din lim.toNat).o.n : Int) ≤ w - 3; omega)]
    · rw [if_neg c2, if_pos rfl, if_neg (show ¬ ((1 ≤ lim ∧ lim ≤ 500) ∧ (0 ≤ w ∧ w ≤ 10)) from fun q => c2 q.2), bad]
      exact MOut.bad (by decide) rfl h hs rfl
  · rw [if_neg c1, if_pos rfl, if_neg (show ¬ ((1 ≤ lim ∧ lim ≤ 500) ∧ (0 ≤ w ∧ w ≤ 10)) from fun q => c1 q.1), bad]
    exact MOut.bad (by decide) rfl h hs rfl
end CL3
