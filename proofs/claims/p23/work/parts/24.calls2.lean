/-! outputs are short, and small -/
def MS.okO (s : MS) : Prop := ∀ j, j < s.ou.n → -999999 ≤ s.ou.f j ∧ s.ou.f j ≤ 999999
theorem stepS_ou {g : Pg} {r : Rw} {s : MS} (h : s.ok g r) (ho : s.okO) : (stepS g r s).2.okO := by
  have e1 : ∀ v, (s.put v).2.ou = s.ou := fun v => by unfold MS.put; split <;> rfl
  unfold stepS
  dsimp only
  split
  · split
    · unfold MS.put; split <;> exact ho
    · exact ho
  · split
    · unfold MS.put; split <;> exact ho
    · split
      · unfold MS.make MS.made
        split
        · split <;> exact ho
        · exact ho
      · split
        · split
          · unfold MS.put; split <;> exact ho
          · exact ho
        · split
          · unfold MS.swap; split <;> exact ho
          · split
            · split
              · split
                · unfold MS.go; split <;> exact ho
                · exact ho
              · exact ho
            · split
              · unfold MS.go; split <;> exact ho
              · unfold MS.print
                split
                · rename_i h1
                  have h1 : 1 ≤ s.st.n := h1
                  split
                  · intro j hj
                    have hj : j < s.ou.n + 1 := hj
                    show -999999 ≤ updf s.ou.f s.ou.n (s.st.f (s.st.n - 1)) j ∧ updf s.ou.f s.ou.n (s.st.f (s.st.n - 1)) j ≤ 999999
                    unfold updf
                    split
                    · exact h.2.2.2.2 _ (by show s.st.n - 1 < s.st.n; omega)
                    · exact ho j (by omega)
                  · exact ho
                · exact ho
theorem runS_ou {g : Pg} {r : Rw} (hg : g.ok) (hr : r.ok) : ∀ (k : Nat) (s : MS), s.ok g r → s.okO → (runS g r k s).2.2.1 ≤ 8 ∧ ∀ j, j < (runS g r k s).2.2.1 → -999999 ≤ (runS g r k s).2.2.2 j ∧ (runS g r k s).2.2.2 j ≤ 999999 := by
  intro k
  induction k with
  | zero =>
    intro s h ho
    rw [runS_z]
    split <;> exact ⟨h.2.2.2.1, ho⟩
  | succ k ih =>
    intro s h ho
    rw [runS_s]
    split
    · exact ⟨h.2.2.2.1, ho⟩
    · rename_i hne
      split
      · exact ih _ (stepS_ok hg hr h (by have := h.1; omega)) (stepS_ou h ho)
      · exact ⟨h.2.2.2.1, ho⟩
theorem runA_ou {g : Pg} {r : Rw} (hg : g.ok) (hr : r.ok) (lim : Nat) : (runA g r lim).o.1 ≤ 8 ∧ ∀ j, j < (runA g r lim).o.1 → -999999 ≤ (runA g r lim).o.2 j ∧ (runA g r lim).o.2 j ≤ 999999 :=
  runS_ou hg hr lim ms0 ⟨Nat.zero_le _, Nat.zero_le _, Nat.zero_le _, Nat.zero_le _, fun j hj => absurd hj (Nat.not_lt_zero _)⟩ (fun j hj => absurd hj (Nat.not_lt_zero _))
section CL2
variable {tg : Tg} {K : KT} {P : PT} {I : IT} {x m a t i c : Nat} {s : Hl} {ks : List Nat}
theorem h_clear (h : HR tg K P I x s) : ∃ I', f_X7_clear K P I x = some ((clearS s).2.1, I') ∧ HR tg K P I' x (clearS s).2.2 ∧ FrT tg (fun u => u.1 ≤ 10) I I' := by
  have h1 := h.2.2.1.1
  have h2 := h.2.2.1.2
  have d0 : P x 0 ≠ P (P x 0) 0 := tg_ne h1.1.1 h1.1.2.1 (by simp)
  have d1 : P x 0 ≠ P (P x 0) 1 := tg_ne h1.1.1 h1.1.2.2 (by simp)
  have q1 : HR tg K P (up I (P x 0) 2 0) x (s.sDesk (0, s.desk.2)) := h.desk ⟨h1.1, by rw [up_s]; rfl, fun j hj => absurd hj (Nat.not_lt_zero _)⟩ (FrT.up ⟨0, h1.1.1⟩)
  have q2 : HR tg K P (up (up I (P x 0) 2 0) (P x 1) 1 0) x ((s.sDesk (0, s.desk.2)).sDin (0, s.din.2)) := q1.din ⟨h2.1, by rw [up_s]; rfl, fun j hj => absurd hj (Nat.not_lt_zero _)⟩ (FrT.up ⟨0, h2.1.1⟩)
  refine ⟨_, ?_, q2, (FrT.up (by rw [h1.1.1]; decide)).tr (FrT.up (by rw [h2.1.1]; decide))⟩
  unfold f_X7_clear
  rw [bnd_e, bnd_e, h1.2.1]
  rfl
theorem h_run {lim w : Int} (h : HR tg K P I x s) (hs : s.ok) : HOut tg K P x I (f_X7_run K P I x lim w) (callRun s lim w) := by
  unfold f_X7_run callRun
  rw [n_range]
  by_cases c1 : 1 ≤ lim ∧ lim ≤ 500
  · rw [if_pos c1, bx_0, n_range]
    by_cases c2 : 0 ≤ w ∧ w ≤ 10
    · rw [if_pos c2, bx_0, if_pos (show (1 ≤ lim ∧ lim ≤ 500) ∧ (0 ≤ w ∧ w ≤ 10) from ⟨c1, c2⟩)]
      obtain ⟨I', u1, u2, u3, u4⟩ := h_exec (K := K) h.2.1 hs.1 hs.2.1 lim.toNat (by omega) h.2.2.1.1 h.2.2.1.2 (by decide) (by decide)
      rw [show ((lim.toNat : Nat) : Int) = lim by omega] at u1
      have ho := runA_ou hs.1 hs.2.1 lim.toNat
      have h2 : HR tg K P I' x s := h.fr (u4.mono fun u => tgM_scr)
      have f2 : FrT tg (fun u => u.1 ≤ 10) I I' := u4.mono (fun u (q : u.1 = 3) => by show u.1 ≤ 10; rw [q]; decide)
      rw [u1, bi_s]
      refine ⟨runV (runA s.desk s.din lim.toNat) w, I', ?_, fun _ => rfl, h2, f2⟩
      unfold runV
      by_cases w0 : w = 0
      · rw [if_pos w0, if_pos w0]
      rw [if_neg w0, if_neg w0]
      by_cases w1 : w = 1
      · rw [if_pos w1, if_pos w1, u3]
      rw [if_neg w1, if_neg w1]
      by_cases w2 : w = 2
      · rw [if_pos w2, if_pos w2, u2.1]
      rw [if_neg w2, if_neg w2, wr_id (by omega) (by omega), r_at u2 ho.1, bp_s]
      by_cases c : w - 3 < ((runA s.desk s.din lim.toNat).o.n : Int)
      · rw [if_pos c, if_pos ⟨by omega, c⟩]
      · rw [if_neg c, if_neg (fun q => c q.2)]
    · rw [if_neg c2, if_neg (show ¬ ((1 ≤ lim ∧ lim ≤ 500) ∧ (0 ≤ w ∧ w ≤ 10)) from fun q => c2 q.2), bx_s (by decide)]
      exact HOut.same (by decide) h rfl
  · rw [if_neg c1, if_neg (show ¬ ((1 ≤ lim ∧ lim ≤ 500) ∧ (0 ≤ w ∧ w ≤ 10)) from fun q => c1 q.1), bx_s (by decide)]
    exact HOut.same (by decide) h rfl
-- the model
def wD (k j : Nat) : Prop := (k = 2 ∨ k = 3) ∧ j < 16 ∨ k = 1 ∧ j = 0
def wI (k j : Nat) : Prop := k = 4 ∧ j = 72 ∨ k = 5 ∧ 288 ≤ j
theorem MH.desk {I' : IT} {g : Pg} (h : MH tg P I m s) (hs : s.ok) (h1 : XPg P I' m 0 g) (hw : FrW P m wD I I') (hf : ∀ j, j < 25 → I' m j = I m j) : MH tg P I' m (s.sDesk g) := by
  obtain ⟨a1, a2, ⟨a3, a4⟩, a5, a6, a7, a8⟩ := h
  obtain ⟨s1, s2, s3, s4, s5, s6, -⟩ := hs
  unfold wD at hw
  exact ⟨a1, a2.fr hf, ⟨h1, a4.fw s2.1 hw (by omega) (fun j _ => by omega)⟩, fun i hi => (a5 i hi).fw (s4 i hi) hw (by omega) (fun j _ => by omega) (fun j _ => by omega) (fun j _ => by omega) (fun j _ => by omega), fun e he => (a6 e he).fw (s6 e he).2.2.2.1.1 hw (by omega) (fun j _ => by omega), a7.fw hw (fun k _ => by omega) (fun k _ => by omega), a8.fw (Nat.le_refl _) hw (fun i _ _ => ⟨by omega, by omega, fun k _ => by omega⟩)⟩
theorem MH.din {I' : IT} {r : Rw} (h : MH tg P I m s) (hs : s.ok) (h1 : XIn P I' m 72 r) (hw : FrW P m wI I I') (hf : ∀ j, j < 25 → I' m j = I m j) : MH tg P I' m (s.sDin r) := by
  obtain ⟨a1, a2, ⟨a3, a4⟩, a5, a6, a7, a8⟩ := h
  obtain ⟨s1, s2, s3, s4, s5, s6, -⟩ := hs
  unfold wI at hw
  exact ⟨a1, a2.fr hf, ⟨a3.fw s1.1 hw (by omega) (fun j _ => by omega), h1⟩, fun i hi => (a5 i hi).fw (s4 i hi) hw (by omega) (fun j _ => by omega) (fun j _ => by have : i < s.np := hi; omega) (fun j _ => by have : i < s.np := hi; omega) (fun j _ => by omega), fun e he => (a6 e he).fw (s6 e he).2.2.2.1.1 hw (by omega) (fun j _ => by omega), a7.fw hw (fun k _ => by omega) (fun k _ => by omega), a8.fw (Nat.le_refl _) hw (fun i _ _ => ⟨by omega, by omega, fun k _ => by omega⟩)⟩
/-- the model notes its throw -/
theorem MH.thr (h : MH tg P I m s) (hs : s.ok) {v : Int} : MH tg P (up I m 38 v) m s ∧ FrT tg (fun u => 11 ≤ u.1) I (up I m 38 v) := ⟨h.y hs (FrY.f (by decide)), FrT.up (by rw [h.1.1]; decide)⟩
end CL2
