/-! THE CLASS'S MACHINE does what a run is -/
def RowI (P : PT) (I : IT) (a : Nat) (r : Rw) : Prop := I a 1 = (r.1 : Int) ∧ ∀ j, j < r.1 → I (P a 0) j = r.2 j
def PgI (P : PT) (I : IT) (a : Nat) (g : Pg) : Prop := I a 2 = (g.1 : Int) ∧ ∀ j, j < g.1 → I (P a 0) j = g.2.1 j ∧ I (P a 1) j = g.2.2 j
theorem RowI.fr {P : PT} {I I' : IT} {a : Nat} {r : Rw} (h : RowI P I a r) (h1 : I' a = I a) (h2 : I' (P a 0) = I (P a 0)) : RowI P I' a r := ⟨by rw [h1]; exact h.1, fun j hj => by rw [h2]; exact h.2 j hj⟩
theorem PgI.fr {P : PT} {I I' : IT} {a : Nat} {g : Pg} (h : PgI P I a g) (h1 : I' a = I a) (h2 : I' (P a 0) = I (P a 0)) (h3 : I' (P a 1) = I (P a 1)) : PgI P I' a g := ⟨by rw [h1]; exact h.1, fun j hj => by rw [h2, h3]; exact h.2 j hj⟩
theorem up_b {I : IT} {a k b : Nat} {v : Int} (h : b ≠ a) : up I a k v b = I b := funext fun j => by simp [up, h]
theorem wr_n (n : Nat) (h : n < 2147483648) : wr (n : Int) = n := wr_id (by omega) (by omega)
theorem r_push {K : KT} {P : PT} {I : IT} {a : Nat} {r : Rw} {v : Int} (h : RowI P I a r) (hn : r.1 < 8) (ha : P a 0 ≠ a) : ∃ I', f_X4_push K P I a v = some I' ∧ RowI P I' a (r.push v) ∧ (∀ b, b ≠ a → b ≠ P a 0 → I' b = I b) := by
  obtain ⟨h1, h2⟩ := h
  have e1 : ¬ I a 1 < 0 := by omega
  have e2 : ¬ 8 ≤ I a 1 := by omega
  have e3 : 0 ≤ I a 1 ∧ I a 1 < 8 := by omega
  have e4 : (I a 1).toNat = r.1 := by omega
  refine ⟨_, by unfold f_X4_push; rw [if_neg e1, if_neg e2, ck_t e3]; rfl, ⟨?_, fun j hj => ?_⟩, fun b g1 g2 => ?_⟩
  · show up (up I (P a 0) _ v) a 1 _ a 1 = _
    rw [up_s, up_a _ _ _ _ (Ne.symm ha), h1, wr_id (by omega) (by omega)]
    rfl
  · have hj : j < r.1 + 1 := hj
    show up (up I (P a 0) _ v) a 1 _ (P a 0) j = updf r.2 r.1 v j
    rw [up_a _ _ _ _ ha, e4, up_apply]
    unfold updf
    by_cases g : j = r.1
    · rw [if_pos ⟨rfl, g⟩, if_pos g]
    · rw [if_neg (fun q => g q.2), if_neg g, h2 j (by omega)]
  · rw [up_b g1, up_b g2]
theorem r_pop {K : KT} {P : PT} {I : IT} {a : Nat} {r : Rw} (h : RowI P I a r) (h1 : 1 ≤ r.1) (hn : r.1 ≤ 8) (ha : P a 0 ≠ a) : ∃ I', f_X4_pop K P I a = some (r.2 (r.1 - 1), I') ∧ RowI P I' a (r.1 - 1, r.2) ∧ (∀ b, b ≠ a → I' b = I b) := by
  obtain ⟨g1, g2⟩ := h
  have e1 : ¬ I a 1 ≤ 0 := by omega
  have e2 : I a 1 ≤ 8 := by omega
  have e3 : up I a 1 (wr (I a 1 - 1)) a 1 = ((r.1 - 1 : Nat) : Int) := by rw [up_s, wr_id (by omega) (by omega)]; omega
  refine ⟨up I a 1 (wr (I a 1 - 1)), ?_, ⟨e3, fun j hj => ?_⟩, fun b g => up_b g⟩
  · unfold f_X4_pop
    rw [if_neg e1, if_pos e2]
    show ck (0 ≤ up I a 1 (wr (I a 1 - 1)) a 1 ∧ up I a 1 (wr (I a 1 - 1)) a 1 < 8) _ = _
    rw [ck_t (by rw [e3]; omega), e3, up_b ha, Int.toNat_natCast, g2 _ (by omega)]
  · have hj : j < r.1 - 1 := hj
    rw [up_b ha]
    exact g2 j (by omega)
theorem r_at {K : KT} {P : PT} {I : IT} {a : Nat} {r : Rw} {x : Int} (h : RowI P I a r) (hn : r.1 ≤ 8) : f_X4_at K P I a x = some (if 0 ≤ x ∧ x < (r.1 : Int) then r.2 x.toNat else 0) := by
  obtain ⟨g1, g2⟩ := h
  unfold f_X4_at
  by_cases c1 : x < 0
  · rw [if_pos c1, if_neg (by omega)]
  · rw [if_neg c1]
    by_cases c2 : I a 1 ≤ x
    · rw [if_pos c2, if_neg (by omega)]
    · rw [if_neg c2, if_neg (by omega), ck_t (by omega), if_pos (by omega), g2 _ (by omega)]
theorem r_full {K : KT} {P : PT} {I : IT} {a : Nat} {r : Rw} (h : RowI P I a r) : f_X4_isFull K P I a = some (if r.1 < 8 then 0 else 1) := by
  unfold f_X4_isFull
  rw [h.1]
  by_cases c1 : r.1 < 8
  · rw [if_pos (by omega), if_pos c1]
  · rw [if_neg (by omega), if_neg c1]
/-- the machine's five cells -/
def TM (P : PT) (mc b : Nat) : Prop := b = mc ∨ b = P mc 0 ∨ b = P mc 1 ∨ b = P (P mc 0) 0 ∨ b = P (P mc 1) 0
def MD (P : PT) (mc : Nat) : Prop := (P mc 0 ≠ mc ∧ P mc 1 ≠ mc ∧ P (P mc 0) 0 ≠ mc ∧ P (P mc 1) 0 ≠ mc) ∧ (P mc 1 ≠ P mc 0 ∧ P (P mc 0) 0 ≠ P mc 0 ∧ P (P mc 1) 0 ≠ P mc 0) ∧ (P (P mc 0) 0 ≠ P mc 1 ∧ P (P mc 1) 0 ≠ P mc 1) ∧ P (P mc 1) 0 ≠ P (P mc 0) 0
abbrev FrM (P : PT) (mc : Nat) (I I' : IT) : Prop := ∀ b, ¬ TM P mc b → I' b = I b
theorem FrM.tr {P : PT} {mc : Nat} {I I1 I2 : IT} (h : FrM P mc I I1) (h2 : FrM P mc I1 I2) : FrM P mc I I2 := fun b hb => (h2 b hb).trans (h b hb)
def MRep (P : PT) (I : IT) (mc : Nat) (s : MS) (k : Nat) : Prop := RowI P I (P mc 0) s.st ∧ RowI P I (P mc 1) s.ou ∧ I mc 2 = (k : Int) ∧ I mc 3 = (s.nx : Int) ∧ I mc 4 = (s.rd : Int)
def StR (P : PT) (I' : IT) (mc k : Nat) (s : MS) (q : Int × MS) : Prop := (q.1 = 0 → MRep P I' mc q.2 k) ∧ (q.1 ≠ 0 → RowI P I' (P mc 1) s.ou ∧ I' mc 2 = (k : Int))
theorem StR.bad {P : PT} {I' : IT} {mc k : Nat} {s : MS} {q : Int × MS} (hq : q.1 ≠ 0) (h : RowI P I' (P mc 1) s.ou) (h2 : I' mc 2 = (k : Int)) : StR P I' mc k s q := ⟨fun h0 => absurd h0 hq, fun _ => ⟨h, h2⟩⟩
theorem StR.good {P : PT} {I' : IT} {mc k : Nat} {s : MS} {q : Int × MS} (hq : q.1 = 0) (h : MRep P I' mc q.2 k) : StR P I' mc k s q := ⟨fun _ => h, fun h0 => absurd hq h0⟩
section EXC
variable {K : KT} {P : PT} {I : IT} {mc k : Nat} {s : MS}
/-- a change of the stack alone -/
theorem MRep.st (hD : MD P mc) (h : MRep P I mc s k) {I' : IT} {r : Rw} (h1 : RowI P I' (P mc 0) r) (h2 : ∀ b, b ≠ P mc 0 → b ≠ P (P mc 0) 0 → I' b = I b) : MRep P I' mc (s.stt r) k ∧ FrM P mc I I' := by
  obtain ⟨⟨d1, d2, d3, d4⟩, ⟨d5, d6, d7⟩, ⟨d8, d9⟩, d10⟩ := hD
  obtain ⟨g1, g2, g3, g4, g5⟩ := h
  have e1 : I' mc = I mc := h2 _ (Ne.symm d1) (Ne.symm d3)
  refine ⟨⟨h1, g2.fr (h2 _ d5 (Ne.symm d8)) (h2 _ d7 d10), by rw [e1]; exact g3, by rw [e1]; exact g4, by rw [e1]; exact g5⟩, fun b hb => h2 b (fun e => hb (Or.inr (Or.inl e))) (fun e => hb (Or.inr (Or.inr (Or.inr (Or.inl e)))))⟩
theorem MRep.ou (hD : MD P mc) (h : MRep P I mc s k) {I' : IT} {r : Rw} (h1 : RowI P I' (P mc 1) r) (h2 : ∀ b, b ≠ P mc 1 → b ≠ P (P mc 1) 0 → I' b = I b) : MRep P I' mc (s.out r) k ∧ FrM P mc I I' := by
  obtain ⟨⟨d1, d2, d3, d4⟩, ⟨d5, d6, d7⟩, ⟨d8, d9⟩, d10⟩ := hD
  obtain ⟨g1, g2, g3, g4, g5⟩ := h
  have e1 : I' mc = I mc := h2 _ (Ne.symm d2) (Ne.symm d4)
  refine ⟨⟨g1.fr (h2 _ (Ne.symm d5) (Ne.symm d7)) (h2 _ d8 (Ne.symm d10)), h1, by rw [e1]; exact g3, by rw [e1]; exact g4, by rw [e1]; exact g5⟩, fun b hb => h2 b (fun e => hb (Or.inr (Or.inr (Or.inl e)))) (fun e => hb (Or.inr (Or.inr (Or.inr (Or.inr e)))))⟩
theorem up_fr {j : Nat} {v : Int} : FrM P mc I (up I mc j v) := fun b hb => up_b (fun e => hb (Or.inl e))
theorem MRep.nx (hD : MD P mc) (h : MRep P I mc s k) (n : Nat) {v : Int} (hv : v = (n : Int)) : MRep P (up I mc 3 v) mc (s.nxt n) k := by
  obtain ⟨⟨d1, d2, d3, d4⟩, ⟨d5, d6, d7⟩, ⟨d8, d9⟩, d10⟩ := hD
  obtain ⟨g1, g2, g3, g4, g5⟩ := h
  exact ⟨g1.fr (up_b d1) (up_b d3), g2.fr (up_b d2) (up_b d4), by rw [up_k _ _ _ _ (by decide)]; exact g3, by rw [up_s]; exact hv, by rw [up_k _ _ _ _ (by decide)]; exact g5⟩
theorem MRep.rd (hD : MD P mc) (h : MRep P I mc s k) (n : Nat) {v : Int} (hv : v = (n : Int)) : MRep P (up I mc 4 v) mc (s.rdt n) k := by
  obtain ⟨⟨d1, d2, d3, d4⟩, ⟨d5, d6, d7⟩, ⟨d8, d9⟩, d10⟩ := hD
  obtain ⟨g1, g2, g3, g4, g5⟩ := h
  exact ⟨g1.fr (up_b d1) (up_b d3), g2.fr (up_b d2) (up_b d4), by rw [up_k _ _ _ _ (by decide)]; exact g3, by rw [up_k _ _ _ _ (by decide)]; exact g4, by rw [up_s]; exact hv⟩
theorem MRep.ks (hD : MD P mc) (h : MRep P I mc s k) (n : Nat) {v : Int} (hv : v = (n : Int)) : MRep P (up I mc 2 v) mc s n := by
  obtain ⟨⟨d1, d2, d3, d4⟩, ⟨d5, d6, d7⟩, ⟨d8, d9⟩, d10⟩ := hD
  obtain ⟨g1, g2, g3, g4, g5⟩ := h
  exact ⟨g1.fr (up_b d1) (up_b d3), g2.fr (up_b d2) (up_b d4), by rw [up_s]; exact hv, by rw [up_k _ _ _ _ (by decide)]; exact g4, by rw [up_k _ _ _ _ (by decide)]; exact g5⟩
theorem e_put {v : Int} (hD : MD P mc) (h : MRep P I mc s k) : ∃ I', f_X1_put K P I mc v = some ((s.put v).1, I') ∧ StR P I' mc k s (s.put v) ∧ FrM P mc I I' := by
  unfold f_X1_put MS.put
  rw [r_full h.1]
  by_cases c : s.st.n < 8
  · obtain ⟨I', e1, e2, e3⟩ := r_push (K := K) (v := v) h.1 c hD.2.1.2.1
    rw [if_pos c, if_pos c, bp_s, if_pos rfl, e1, bp_s]
    obtain ⟨q1, q2⟩ := h.st hD e2 e3
    exact ⟨I', rfl, StR.good rfl q1, q2⟩
  · rw [if_neg c, if_neg c, bp_s, if_neg (by decide)]
    exact ⟨I, rfl, StR.bad (show (3 : Int) ≠ 0 by decide) h.2.1 h.2.2.1, fun b _ => rfl⟩
theorem e_go {v : Int} {n : Nat} (hD : MD P mc) (h : MRep P I mc s k) : ∃ I', f_X1_goTo K P I mc v n = some ((s.go n v).1, I') ∧ StR P I' mc k s (s.go n v) ∧ FrM P mc I I' := by
  unfold f_X1_goTo MS.go
  by_cases c : 0 ≤ v ∧ v ≤ (n : Int)
  · rw [if_neg (by omega), if_pos c.2, if_pos c]
    exact ⟨_, rfl, StR.good rfl (h.nx hD v.toNat (by omega)), up_fr⟩
  · rw [if_neg c]
    refine ⟨I, ?_, StR.bad (show (4 : Int) ≠ 0 by decide) h.2.1 h.2.2.1, fun b _ => rfl⟩
    by_cases c1 : v < 0
    · rw [if_pos c1]
    · rw [if_neg c1, if_neg (by omega)]
theorem e_goz {v : Int} {n : Nat} (hD : MD P mc) (h : MRep P I mc s k) (h8 : s.st.n ≤ 8) : ∃ I', f_X1_goIfZero K P I mc v n = some ((if 1 ≤ s.st.n then (if s.st.f (s.st.n - 1) = 0 then s.pop.go n v else (0, s.pop)) else (4, s) : Int × MS).1, I') ∧ StR P I' mc k s (if 1 ≤ s.st.n then (if s.st.f (s.st.n - 1) = 0 then s.pop.go n v else (0, s.pop)) else (4, s)) ∧ FrM P mc I I' := by
  unfold f_X1_goIfZero
  rw [show I (P mc 0) 1 = (s.st.n : Int) from h.1.1]
  by_cases c : 1 ≤ s.st.n
  · obtain ⟨I1, e1, e2, e3⟩ := r_pop (K := K) h.1 c h8 hD.2.1.2.1
    obtain ⟨q1, q2⟩ := h.st hD e2 (fun b g1 _ => e3 b g1)
    rw [if_pos (by omega), if_pos c, e1, bi_s]
    by_cases c2 : s.st.f (s.st.n - 1) = 0
    · have c3 : s.2.2.1.2 (s.2.2.1.1 - 1) = 0 := c2
      rw [if_pos c3, if_pos c2]
      obtain ⟨I2, f1, f2, f3⟩ := e_go (K := K) (v := v) (n := n) hD q1
      rw [f1]
      exact ⟨I2, rfl, f2, q2.tr f3⟩
    · have c3 : ¬ s.2.2.1.2 (s.2.2.1.1 - 1) = 0 := c2
      rw [if_neg c3, if_neg c2]
      exact ⟨I1, rfl, StR.good rfl q1, q2⟩
  · rw [if_neg (by omega), if_neg c]
    exact ⟨I, rfl, StR.bad (show (4 : Int) ≠ 0 by decide) h.2.1 h.2.2.1, fun b _ => rfl⟩
end EXC
