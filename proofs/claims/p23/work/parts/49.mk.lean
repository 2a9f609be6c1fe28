/-! WHAT MAKERS MAKE -/
section MK1
variable {Q : Nat × Nat × Nat → Prop} {L L1 : List Nat} {tg tg1 : Tg} {K K1 : KT} {P P1 : PT} {I I1 : IT} {a x m t i j c l n q : Nat} {u : Nat × Nat × Nat} {s : Hl}
theorem mk_obj {co : Nat} {f : Nat → PO} (hc : co % 4 = 2 → co < 102) (hT : TL tg L) (hK : KL K L) (H : ∀ q L1 tg1 K1 P1 I1, q ∉ L → q ∈ L1 → Gw (fun _ => False) L tg K P I L1 tg1 K1 P1 I1 → K1 q = co → tg1 q = u → f q L1 K1 P1 I1) : nwP L K P I co f := fun q hq _ =>
  H q (L ++ [q]) (va_up tg q u) _ _ _ hq (List.mem_append_right _ List.mem_cons_self) (Gw.nw hT hK hq (Or.inl hc)) (va_up_self _ _ _) (va_up_self _ _ _)
/-- a program is made: empty -/
theorem mk_prog {f : Nat → PO} (hT : TL tg L) (hK : KL K L) (H : ∀ q L1 tg1 K1 P1 I1, q ∉ L → q ∈ L1 → Gw (fun _ => False) L tg K P I L1 tg1 K1 P1 I1 → K1 q = 4 → PgR tg1 P1 I1 q t i c (0, fun _ => 0, fun _ => 0) → P1 q 0 ∉ L → P1 q 1 ∉ L → f q L1 K1 P1 I1) : nwP L K P I 24 fun q1 L1 K1 P1 I1 => w_X3_init L1 K1 P1 I1 q1 (f q1) := by
  intro q hq h0
  have g1 : Gw (fun _ => False) L tg K P I (L ++ [q]) (va_up tg q (t, i, c)) (va_up K q 24) (clrN P q) (clr I q) := Gw.nw hT hK hq (Or.inl (by decide))
  intro a1 ha1 h01
  have g2 := g1.tr (Gw.nw (u := (t, i, c + 1)) (co := 164) g1.2.1 g1.2.2 ha1 (Or.inl (by decide)))
  have g3 := g2.sP (a := q) (k := 0) (v := a1) (Or.inl hq)
  intro a2 ha2 h02
  have g4 := g3.tr (Gw.nw (u := (t, i, c + 2)) (co := 164) g3.2.1 g3.2.2 ha2 (Or.inl (by decide)))
  have g5 := g4.sP (a := q) (k := 1) (v := a2) (Or.inl hq)
  have g6 := g5.sI (a := q) (k := 2) (v := 0) (Or.inl hq)
  have q1 : q ∈ L ++ [q] := List.mem_append_right _ List.mem_cons_self
  have n1 : q ≠ a1 := fun z => ha1 (z ▸ q1)
  have q2 : q ∈ L ++ [q] ++ [a1] := List.mem_append_left _ q1
  have a12 : a1 ∈ L ++ [q] ++ [a1] := List.mem_append_right _ List.mem_cons_self
  have n2 : q ≠ a2 := fun z => ha2 (z ▸ q2)
  have n3 : a1 ≠ a2 := fun z => ha2 (z ▸ a12)
  have q3 : q ∈ L ++ [q] ++ [a1] ++ [a2] := List.mem_append_left _ q2
  refine H q _ _ _ _ _ hq q3 (g6.sK (a := q) (co := 4) hq q3 (by decide)) (va_up_self _ _ _) ⟨⟨?_, ?_, ?_⟩, ?_, fun j hj => absurd hj (Nat.not_lt_zero _)⟩ ?_ ?_
  · rw [va_up_ne _ _ n2, va_up_ne _ _ n1, va_up_self]
  · simp [up, clrN, va_up, n1, n2, n3]
  · simp [up, va_up]
  · rw [up_s]; rfl
  · simp [up, clrN, n1, n2]
    exact fun z => ha1 (List.mem_append_left _ z)
  · simp [up]
    exact fun z => ha2 (List.mem_append_left _ (List.mem_append_left _ z))
/-- a row is made: empty -/
theorem mk_row {f : Nat → PO} (hT : TL tg L) (hK : KL K L) (H : ∀ q L1 tg1 K1 P1 I1, q ∉ L → q ∈ L1 → Gw (fun _ => False) L tg K P I L1 tg1 K1 P1 I1 → K1 q = 5 → RwR tg1 P1 I1 q t i c (0, fun _ => 0) → P1 q 0 ∉ L → f q L1 K1 P1 I1) : nwP L K P I 25 fun q1 L1 K1 P1 I1 => w_X4_init L1 K1 P1 I1 q1 (f q1) := by
  intro q hq h0
  have g1 : Gw (fun _ => False) L tg K P I (L ++ [q]) (va_up tg q (t, i, c)) (va_up K q 25) (clrN P q) (clr I q) := Gw.nw hT hK hq (Or.inl (by decide))
  intro a1 ha1 h01
  have g2 := g1.tr (Gw.nw (u := (t, i, c + 1)) (co := 132) g1.2.1 g1.2.2 ha1 (Or.inl (by decide)))
  have g3 := g2.sP (a := q) (k := 0) (v := a1) (Or.inl hq)
  have g6 := g3.sI (a := q) (k := 1) (v := 0) (Or.inl hq)
  have q1 : q ∈ L ++ [q] := List.mem_append_right _ List.mem_cons_self
  have n1 : q ≠ a1 := fun z => ha1 (z ▸ q1)
  have q2 : q ∈ L ++ [q] ++ [a1] := List.mem_append_left _ q1
  refine H q _ _ _ _ _ hq q2 (g6.sK (a := q) (co := 5) hq q2 (by decide)) (va_up_self _ _ _) ⟨⟨?_, ?_⟩, ?_, fun j hj => absurd hj (Nat.not_lt_zero _)⟩ ?_
  · rw [va_up_ne _ _ n1, va_up_self]
  · simp [up, va_up]
  · rw [up_s]; rfl
  · simp [up]
    exact fun z => ha1 (List.mem_append_left _ z)
/-- a list is made: empty -/
theorem mk_list {f : Nat → PO} (t : Nat) (ht : t < 100) (hT : TL tg L) (hK : KL K L) (H : ∀ q L1 tg1 K1 P1 I1, q ∉ L → q ∈ L1 → Gw (fun _ => False) L tg K P I L1 tg1 K1 P1 I1 → K1 q = t → tg1 q = u → P1 q 1 = 1 → I1 q 2 = 0 → f q L1 K1 P1 I1) : nwP L K P I 20 fun q1 L1 K1 P1 I1 => w_linit t L1 K1 P1 I1 q1 (f q1) := by
  intro q hq h0
  have g1 : Gw (fun _ => False) L tg K P I (L ++ [q]) (va_up tg q u) (va_up K q 20) (clrN P q) (clr I q) := Gw.nw hT hK hq (Or.inl (by decide))
  have g3 := g1.sP (a := q) (k := 1) (v := 1) (Or.inl hq)
  have g6 := g3.sI (a := q) (k := 0) (v := 0) (Or.inl hq)
  have q1 : q ∈ L ++ [q] := List.mem_append_right _ List.mem_cons_self
  refine H q _ _ _ _ _ hq q1 (g6.sK (a := q) (co := t) hq q1 (by omega)) (va_up_self _ _ _) (va_up_self _ _ _) (up_s _ _ _ _) ?_
  simp [up, clr]
theorem Gw.wk (h : Gw (fun _ => False) L tg K P I L1 tg1 K1 P1 I1) : Gw Q L tg K P I L1 tg1 K1 P1 I1 := h.mono (fun _ z => z.elim)
/-- a trial is made out of two rows -/
theorem mk_trial {a1 a2 t1 i1 c1 t2 i2 c2 : Nat} {r o : Rw} {v : Int} {post : PO} (g : Gw Q L tg K P I L1 tg1 K1 P1 I1) (hq : q ∉ L) (hq1 : q ∈ L1) (tq : tg1 q = (5, i, 8 * j)) (h1 : RwR tg1 P1 I1 a1 t1 i1 c1 r) (h2 : RwR tg1 P1 I1 a2 t2 i2 c2 o) (n1 : t1 ≠ 5 ∧ t1 < 20) (n2 : t2 ≠ 5 ∧ t2 < 20) (hr : r.1 ≤ 8) (ho : o.1 ≤ 8)
    (H : ∀ L2 tg2 K2 P2 I2, Gw Q L tg K P I L2 tg2 K2 P2 I2 → q ∈ L2 → K2 q = 7 → TrR tg2 P2 I2 i j q r o v → post L2 K2 P2 I2) : w_X6_init L1 K1 P1 I1 q a1 a2 v post := by
  unfold w_X6_init
  refine mk_row (t := 5) (i := i) (c := 8 * j + 1) g.2.1 g.2.2 (fun b1 L2 tg2 K2 P2 I2 b2 b3 b4 b5 b6 b8 => ?_)
  have g2 := g.tr (b4.wk (Q := Q))
  obtain ⟨x1, x2, x3, x4⟩ := b4.1 q hq1
  have s1 := h1.gw b4 g.2.1 n1.2 (fun _ => id)
  have s2 := h2.gw b4 g.2.1 n2.2 (fun _ => id)
  have g3 := g2.sP (a := q) (k := 0) (v := b1) (Or.inl hq)
  have tq2 : tg2 q = (5, i, 8 * j) := x2.trans tq
  have d1 : b1 ≠ q := tg_ne b6.1.1 tq2 (by simp)
  have d2 : P2 b1 0 ≠ q := tg_ne b6.1.2 tq2 (by simp; omega)
  have e1 : ∀ b, b ≠ q → up P2 q 0 b1 b = P2 b := fun b hb => up_bg hb
  have s1b : RwR tg2 (up P2 q 0 b1) I2 a1 t1 i1 c1 r := by
    have d : a1 ≠ q := tg_ne s1.1.1 tq2 (by simp [n1.1])
    unfold RwR RowI at s1 ⊢
    rw [e1 a1 d]; exact s1
  have s2b : RwR tg2 (up P2 q 0 b1) I2 a2 t2 i2 c2 o := by
    have d : a2 ≠ q := tg_ne s2.1.1 tq2 (by simp [n2.1])
    unfold RwR RowI at s2 ⊢
    rw [e1 a2 d]; exact s2
  have s3b : RwR tg2 (up P2 q 0 b1) I2 b1 5 i (8 * j + 1) (0, fun _ => 0) := by
    unfold RwR RowI at b6 ⊢
    rw [e1 b1 d1]; exact b6
  refine mk_row (t := 5) (i := i) (c := 8 * j + 3) g3.2.1 g3.2.2 (fun b7 L3 tg3 K3 P3 I3 c2' c3 c4 c5 c6 c8 => ?_)
  have g4 := g3.tr (c4.wk (Q := Q))
  obtain ⟨y1, y2, y3, y4⟩ := c4.1 q x1
  have tq3 : tg3 q = (5, i, 8 * j) := y2.trans tq2
  have r1 := s1b.gw c4 g3.2.1 n1.2 (fun _ => id)
  have r2 := s2b.gw c4 g3.2.1 n2.2 (fun _ => id)
  have r3 := s3b.gw c4 g3.2.1 (by decide) (fun _ => id)
  have g5 := g4.sP (a := q) (k := 1) (v := b7) (Or.inl hq)
  have d3 : b7 ≠ q := tg_ne c6.1.1 tq3 (by simp)
  have e2 : ∀ b, b ≠ q → up P3 q 1 b7 b = P3 b := fun b hb => up_bg hb
  have da1 : a1 ≠ q := tg_ne r1.1.1 tq3 (by simp [n1.1])
  have da2 : a2 ≠ q := tg_ne r2.1.1 tq3 (by simp [n2.1])
  have db1 : b1 ≠ q := tg_ne r3.1.1 tq3 (by simp)
  have pq0 : up P3 q 1 b7 q 0 = b1 := by
    rw [up_k _ _ _ _ (by decide), (y4 id).1, up_s]
  have pq1 : up P3 q 1 b7 q 1 = b7 := up_s _ _ _ _
  show bpP (f_X4_copyFrom K3 (up P3 q 1 b7) I3 (up P3 q 1 b7 q 0) a1) _
  rw [pq0]
  have w1 : RowI (up P3 q 1 b7) I3 a1 r := by
    unfold RowI; rw [e2 a1 da1]; exact r1.2
  have w2 : RowI (up P3 q 1 b7) I3 a2 o := by
    unfold RowI; rw [e2 a2 da2]; exact r2.2
  obtain ⟨I4, k1, k2, k3⟩ := r_copy (K := K3) (a := b1) w1 hr (by rw [e2 b1 db1]; exact tg_ne r1.1.1 r3.1.2 (by simp [n1.1])) (by rw [e2 b1 db1]; exact tg_ne r3.1.1 r3.1.2 (by simp))
  refine ⟨I4, k1, ?_⟩
  rw [e2 b1 db1] at k3
  show bpP (f_X4_copyFrom K3 (up P3 q 1 b7) I4 (up P3 q 1 b7 q 1) a2) _
  rw [pq1]
  have w3 : RowI (up P3 q 1 b7) I4 a2 o := by
    refine w2.fr (k3 _ (tg_ne r2.1.1 r3.1.1 (by simp [n2.1])) (tg_ne r2.1.1 r3.1.2 (by simp [n2.1]))) ?_
    rw [e2 a2 da2]
    exact k3 _ (tg_ne r2.1.2 r3.1.1 (by simp [n2.1])) (tg_ne r2.1.2 r3.1.2 (by simp [n2.1]))
  obtain ⟨I5, j1, j2, j3⟩ := r_copy (K := K3) (a := b7) w3 ho (by rw [e2 b7 d3]; exact tg_ne r2.1.1 c6.1.2 (by simp [n2.1])) (by rw [e2 b7 d3]; exact tg_ne c6.1.1 c6.1.2 (by simp))
  refine ⟨I5, j1, ?_⟩
  rw [e2 b7 d3] at j3
  have fresh1 : b1 ∉ L := fun z => b2 ((g.1 b1 z).1)
  have k5 : RowI (up P3 q 1 b7) I5 b1 r := by
    refine k2.fr (j3 _ (tg_ne r3.1.1 c6.1.1 (by simp)) (tg_ne r3.1.1 c6.1.2 (by simp))) ?_
    rw [e2 b1 db1]
    exact j3 _ (tg_ne r3.1.2 c6.1.1 (by simp)) (tg_ne r3.1.2 c6.1.2 (by simp))
  have inL : ∀ b, b ∈ L → b ∈ L1 ∧ b ∈ L2 := fun b hb => ⟨(g.1 b hb).1, (g2.1 b hb).1⟩
  have e10 : up P2 q 0 b1 b1 = P2 b1 := e1 b1 d1
  have f1 : P3 b1 0 = P2 b1 0 := by
    have := (c4.1 b1 b3).2.2.2 id
    rw [this.1, e10]
  have g6 : Gw Q L tg K P I L3 tg3 K3 (up P3 q 1 b7) I5 := by
    refine g5.fI (fun b hb _ => ?_)
    obtain ⟨z1, z2⟩ := inL b hb
    rw [j3 b (fun z => c2' (z ▸ z2)) (fun z => c8 (z ▸ z2)), k3 b (fun z => b2 (z ▸ z1)) (fun z => b8 (by rw [← f1]; exact z ▸ z1))]
  have g7 := g6.sI (a := q) (k := 2) (v := v) (Or.inl hq)
  have g8 := g7.sK (a := q) (co := 7) hq y1 (by decide)
  refine H _ _ _ _ _ g8 y1 (va_up_self _ _ _) ⟨tq3, ?_, ?_, up_s _ _ _ _⟩
  · rw [pq0]
    refine ⟨⟨r3.1.1, by rw [e2 b1 db1]; exact r3.1.2⟩, k5.fr (up_b db1) ?_⟩
    rw [e2 b1 db1]
    exact up_b (tg_ne r3.1.2 tq3 (by simp; omega))
  · rw [pq1]
    refine ⟨⟨c6.1.1, by rw [e2 b7 d3]; exact c6.1.2⟩, j2.fr (up_b d3) ?_⟩
    rw [e2 b7 d3]
    exact up_b (tg_ne c6.1.2 tq3 (by simp; omega))
end MK1
