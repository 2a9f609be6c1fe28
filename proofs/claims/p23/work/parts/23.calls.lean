/-! THE CALLS, one by one: what each comes to, by itself (code of its throw or 0, answer, the hall behind it); the class does so; the model does so -/
abbrev Out : Type := Nat × Int × Hl
def HOut (tg : Tg) (K : KT) (P : PT) (x : Nat) (I : IT) (z : Option (Nat × Int × IT)) (q : Out) : Prop := ∃ (r : Int) (I' : IT), z = some (q.1, r, I') ∧ (q.1 = 0 → r = q.2.1) ∧ HR tg K P I' x q.2.2 ∧ FrT tg (fun u => u.1 ≤ 10) I I'
def Pg.app (g : Pg) (w v : Int) : Pg := (g.n + 1, updf g.s g.n w, updf g.v g.n v)
theorem Pg.app_ok {g : Pg} {w v : Int} (h : g.ok) (hn : g.n < 16) (hw : 0 ≤ w ∧ w ≤ 9) (hv : -99 ≤ v ∧ v ≤ 99) : (g.app w v).ok := by
  refine ⟨hn, fun j hj => ?_⟩
  have hj : j < g.n + 1 := hj
  show (0 ≤ updf g.s g.n w j ∧ updf g.s g.n w j ≤ 9) ∧ (-99 ≤ updf g.v g.n v j ∧ updf g.v g.n v j ≤ 99)
  unfold updf
  by_cases c : j = g.n
  · rw [if_pos c, if_pos c]; exact ⟨hw, hv⟩
  · rw [if_neg c, if_neg c]; exact h.2 j (by omega)
def codeS (s : Hl) (w v : Int) : Out := if (0 ≤ w ∧ w ≤ 9) ∧ (-99 ≤ v ∧ v ≤ 99) then (if s.desk.n < 16 then (0, (s.desk.n : Int) + 1, s.sDesk (s.desk.app w v)) else (2, 0, s)) else (1, 0, s)
def inputS (s : Hl) (v : Int) : Out := if -9 ≤ v ∧ v ≤ 9 then (if s.din.n < 4 then (0, (s.din.n : Int) + 1, s.sDin (s.din.push v)) else (2, 0, s)) else (1, 0, s)
def clearS (s : Hl) : Out := (0, (s.desk.n : Int), (s.sDesk (0, s.desk.2)).sDin (0, s.din.2))
def runV (z : Rn) (w : Int) : Int := if w = 0 then z.e else if w = 1 then (z.k : Int) else if w = 2 then (z.o.n : Int) else if w - 3 < (z.o.n : Int) then z.o.f (w - 3).toNat else 0
def callRun (s : Hl) (lim w : Int) : Out := if (1 ≤ lim ∧ lim ≤ 500) ∧ (0 ≤ w ∧ w ≤ 10) then (0, runV (runA s.desk s.din lim.toNat) w, s) else (1, 0, s)
theorem codeS_ok {s : Hl} (h : s.ok) {w v : Int} : (codeS s w v).2.2.ok := by
  unfold codeS
  split
  · rename_i c
    split
    · rename_i c2
      exact ⟨Pg.app_ok h.1 c2 c.1 c.2, h.2⟩
    · exact h
  · exact h
theorem inputS_ok {s : Hl} (h : s.ok) {v : Int} : (inputS s v).2.2.ok := by
  unfold inputS
  split
  · rename_i c
    split
    · rename_i c2
      refine ⟨h.1, ⟨c2, fun j hj => ?_⟩, h.2.2⟩
      have hj : j < s.din.n + 1 := hj
      show -9 ≤ updf s.din.f s.din.n v j ∧ updf s.din.f s.din.n v j ≤ 9
      unfold updf
      by_cases c : j = s.din.n
      · rw [if_pos c]; assumption
      · rw [if_neg c]; exact h.2.1.2 j (by omega)
    · exact h
  · exact h
theorem clearS_ok {s : Hl} (h : s.ok) : (clearS s).2.2.ok := ⟨⟨Nat.zero_le _, fun j hj => absurd hj (Nat.not_lt_zero _)⟩, ⟨Nat.zero_le _, fun j hj => absurd hj (Nat.not_lt_zero _)⟩, h.2.2⟩
theorem callRun_ok {s : Hl} (h : s.ok) {lim w : Int} : (callRun s lim w).2.2.ok := by
  unfold callRun
  split <;> exact h
section CL1
variable {tg : Tg} {K : KT} {P : PT} {I : IT} {x m a t i c : Nat} {s : Hl} {ks : List Nat}
theorem n_range {v lo hi : Int} : f_X7_needRange K P I v lo hi = some (if lo ≤ v ∧ v ≤ hi then 0 else 1, (), I) := by
  unfold f_X7_needRange f_X7_needRange_10
  by_cases c1 : v < lo
  · rw [if_pos c1, if_neg (by omega)]
  · rw [if_neg c1]
    by_cases c2 : v ≤ hi
    · rw [if_pos c2, if_pos (by omega)]
    · rw [if_neg c2, if_neg (by omega)]
theorem n_index {v n : Int} : f_X7_needIndex K P I v n = some (if 0 ≤ v ∧ v < n then 0 else 3, (), I) := by
  unfold f_X7_needIndex f_X7_needIndex_9
  by_cases c1 : v < 0
  · rw [if_pos c1, if_neg (by omega)]
  · rw [if_neg c1]
    by_cases c2 : v < n
    · rw [if_pos c2, if_pos (by omega)]
    · rw [if_neg c2, if_neg (by omega)]
theorem HOut.same {co : Nat} (hc : co ≠ 0) (h : HR tg K P I x s) {r : Int} {z : Option (Nat × Int × IT)} (hz : z = some (co, r, I)) : HOut tg K P x I z (co, 0, s) := ⟨r, I, hz, fun h0 => absurd h0 hc, h, FrT.rf⟩
theorem p_app {g : Pg} {w v : Int} (h : PgR tg P I a t i c g) (hn : g.n < 16) : ∃ I', f_X3_append K P I a w v = some I' ∧ PgR tg P I' a t i c (g.app w v) ∧ FrT tg (fun u => ∃ k, u = (t, i, k)) I I' := by
  obtain ⟨⟨h1, h2, h3⟩, h4, h5⟩ := h
  have d1 : P a 0 ≠ a := tg_ne h2 h1 (by simp)
  have d2 : P a 1 ≠ a := tg_ne h3 h1 (by simp)
  have d3 : P a 1 ≠ P a 0 := tg_ne h3 h2 (by simp)
  have hn : g.1 < 16 := hn
  have e1 : ¬ I a 2 < 0 := by omega
  have e2 : ¬ 16 ≤ I a 2 := by omega
  have e4 : (I a 2).toNat = g.1 := by omega
  refine ⟨_, by unfold f_X3_append; rw [if_neg e1, if_neg e2, ck_t (by omega), bnd_e, up_b (Ne.symm d1), ck_t (by omega)]; rfl, ⟨⟨h1, h2, h3⟩, ?_, fun j hj => ?_⟩, ?_⟩
  · rw [up_s, up_b (Ne.symm d2), up_b (Ne.symm d1), h4, wr_id (by omega) (by omega)]; rfl
  · have hj : j < g.1 + 1 := hj
    rw [up_b d1, up_b d2, up_b (Ne.symm d3), e4, up_apply I, up_apply (up I _ _ _), up_b d3]
    show _ = updf g.2.1 g.1 w j ∧ _ = updf g.2.2 g.1 v j
    unfold updf
    by_cases q : j = g.1
    · simp only [q, and_self, if_true]
    · simp only [q, and_false, if_false]; exact h5 j (by omega)
  · exact (FrT.up ⟨_, h2⟩).tr ((FrT.up ⟨_, h3⟩).tr (FrT.up ⟨_, h1⟩))
/-- the desk's program, or its input, another; all else as it was -/
theorem HR.desk {I' : IT} {g : Pg} (h : HR tg K P I x s) (h2 : PgR tg P I' (P x 0) 1 0 0 g) (hf : FrT tg (fun u => ∃ k, u = (1, 0, k)) I I') : HR tg K P I' x (s.sDesk g) := by
  obtain ⟨a1, a2, a3, a4, a5, a6⟩ := h
  exact ⟨a1.fr hf (by rintro ⟨k, e⟩; simp at e), a2, ⟨h2, a3.2.fr hf (by rintro k ⟨k2, e⟩; simp at e)⟩, a4.fr hf (by rintro ⟨k, e⟩; simp at e) (by rintro i k ⟨k2, e⟩; simp at e) (by rintro i k ⟨k2, e⟩; simp at e), a5.fr hf (by rintro ⟨k, e⟩; simp at e) (by rintro i k ⟨k2, e⟩; simp at e), a6.fr hf ⟨by rintro ⟨k, e⟩; simp at e, by rintro ⟨k, e⟩; simp at e, by rintro ⟨k, e⟩; simp at e⟩⟩
theorem HR.din {I' : IT} {r : Rw} (h : HR tg K P I x s) (h2 : RwR tg P I' (P x 1) 2 0 0 r) (hf : FrT tg (fun u => ∃ k, u = (2, 0, k)) I I') : HR tg K P I' x (s.sDin r) := by
  obtain ⟨a1, a2, a3, a4, a5, a6⟩ := h
  exact ⟨a1.fr hf (by rintro ⟨k, e⟩; simp at e), a2, ⟨a3.1.fr hf (by rintro k ⟨k2, e⟩; simp at e), h2⟩, a4.fr hf (by rintro ⟨k, e⟩; simp at e) (by rintro i k ⟨k2, e⟩; simp at e) (by rintro i k ⟨k2, e⟩; simp at e), a5.fr hf (by rintro ⟨k, e⟩; simp at e) (by rintro i k ⟨k2, e⟩; simp at e), a6.fr hf ⟨by rintro ⟨k, e⟩; simp at e, by rintro ⟨k, e⟩; simp at e, by rintro ⟨k, e⟩; simp at e⟩⟩
theorem tg10 {t i : Nat} (h : t ≤ 10) : ∀ u : Nat × Nat × Nat, (∃ k, u = (t, i, k)) → u.1 ≤ 10 := by
  rintro u ⟨k, rfl⟩
  exact h
theorem h_code {w v : Int} (h : HR tg K P I x s) : HOut tg K P x I (f_X7_code K P I x w v) (codeS s w v) := by
  unfold f_X7_code codeS
  rw [n_range]
  by_cases c1 : 0 ≤ w ∧ w ≤ 9
  · rw [if_pos c1, bx_0, n_range]
    by_cases c2 : -99 ≤ v ∧ v ≤ 99
    · rw [if_pos c2, bx_0, if_pos (show (0 ≤ w ∧ w ≤ 9) ∧ (-99 ≤ v ∧ v ≤ 99) from ⟨c1, c2⟩)]
      have e : I (P x 0) 2 = (s.desk.n : Int) := h.2.2.1.1.2.1
      by_cases c3 : s.desk.n < 16
      · rw [if_pos (by omega), if_pos c3]
        obtain ⟨I', k1, k2, k3⟩ := p_app (K := K) (w := w) (v := v) h.2.2.1.1 c3
        rw [k1, bp_s]
        exact ⟨_, I', rfl, fun _ => k2.2.1, h.desk k2 k3, k3.mono (tg10 (by decide))⟩
      · rw [if_neg (by omega), if_neg c3]
        exact HOut.same (by decide) h rfl
    · rw [if_neg c2, if_neg (show ¬ ((0 ≤ w ∧ w ≤ 9) ∧ (-99 ≤ v ∧ v ≤ 99)) from fun q => c2 q.2), bx_s (by decide)]
      exact HOut.same (by decide) h rfl
  · rw [if_neg c1, if_neg (show ¬ ((0 ≤ w ∧ w ≤ 9) ∧ (-99 ≤ v ∧ v ≤ 99)) from fun q => c1 q.1), bx_s (by decide)]
    exact HOut.same (by decide) h rfl
theorem h_input {v : Int} (h : HR tg K P I x s) : HOut tg K P x I (f_X7_input K P I x v) (inputS s v) := by
  unfold f_X7_input inputS
  rw [n_range]
  by_cases c1 : -9 ≤ v ∧ v ≤ 9
  · rw [if_pos c1, bx_0, if_pos c1]
    have hr := h.2.2.1.2
    have e : I (P x 1) 1 = (s.din.n : Int) := hr.2.1
    by_cases c3 : s.din.n < 4
    · rw [if_pos (by omega), if_pos c3]
      obtain ⟨I', k1, k2, k3⟩ := r_push (K := K) (v := v) hr.2 (Nat.lt_trans c3 (by decide)) (tg_ne hr.1.2 hr.1.1 (by simp))
      have k4 : FrT tg (fun u => ∃ k, u = (2, 0, k)) I I' := fun b hb => k3 b (fun e => hb ⟨0, by rw [e]; exact hr.1.1⟩) (fun e => hb ⟨1, by rw [e]; exact hr.1.2⟩)
      rw [k1, bp_s]
      exact ⟨_, I', rfl, fun _ => k2.1, h.din ⟨hr.1, k2⟩ k4, k4.mono (tg10 (by decide))⟩
    · rw [if_neg (by omega), if_neg c3]
      exact HOut.same (by decide) h rfl
  · rw [if_neg c1, if_neg c1, bx_s (by decide)]
    exact HOut.same (by decide) h rfl
end CL1
