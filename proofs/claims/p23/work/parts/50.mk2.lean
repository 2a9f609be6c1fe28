section MK2
variable {Q : Nat × Nat × Nat → Prop} {L L1 : List Nat} {tg tg1 : Tg} {K K1 : KT} {P P1 P2 : PT} {I I1 : IT} {a x m t i j c l n q v : Nat} {u w : Nat × Nat × Nat} {s : Hl}
theorem Gw.fP (h : Gw Q L tg K P I L1 tg1 K1 P1 I1) (hf : ∀ b, b ∈ L → ¬ Q (tg b) → P2 b = P1 b) : Gw Q L tg K P I L1 tg1 K1 P2 I1 := ⟨fun b hb => by
  obtain ⟨a1, a2, a3, a4⟩ := h.1 b hb
  exact ⟨a1, a2, a3, fun hq => ⟨(hf b hb hq).trans (a4 hq).1, (a4 hq).2⟩⟩, h.2⟩
/-- one more in a list -/
theorem mk_add {post : PO} (h : LR K P I l t n) (hn : n < 66) (tl : tg l = u) (hu : u.1 < 20) (tr : P l 1 ≠ 1 → tg (P l 1) = w) (hw : w.1 < 20) (huw : u ≠ w) (hv : K v = t) (ht : t ≠ 0) (hT : TL tg L) (hK : KL K L)
    (H : ∀ L1 tg1 K1 P1 I1, Gw (fun z => z = u ∨ z = w) L tg K P I L1 tg1 K1 P1 I1 → LR K1 P1 I1 l t (n + 1) → (∀ i, i < n → elt P1 l i = elt P l i) → elt P1 l n = v → (P1 l 1 ≠ 1 → tg1 (P1 l 1) = w) → (∀ b, b ∈ L → b ≠ l → I1 b = I b) → post L1 K1 P1 I1) : addW L K P I l t v post := by
  obtain ⟨h1, h2, h3⟩ := h
  have lL : l ∈ L := hT l (by rw [tl]; exact hu)
  have vL : v ∈ L := hK.1 v (by rw [hv]; exact ht)
  have e2 : up I l 0 (wr (I l 0 + 1)) l 2 = (n : Int) := by rw [up_k _ _ _ _ (by decide)]; exact h1
  have fI : ∀ b, b ∈ L → b ≠ l → up I l 0 (wr (I l 0 + 1)) b = I b := fun b _ hb => up_b hb
  have g0 : Gw (fun z => z = u ∨ z = w) L tg K P I L tg K P (up I l 0 (wr (I l 0 + 1))) := (Gw.rf hT hK).sI (Or.inr (Or.inl tl))
  unfold addW
  generalize up I l 0 (wr (I l 0 + 1)) = I0 at e2 fI g0 ⊢
  unfold addW3
  rw [e2]
  rcases h3 with ⟨h4, h5⟩ | ⟨n0, k1, k2, k3, k4⟩
  · refine Or.inr (Or.inl ⟨h4, by omega, fun q hq h1q => ?_⟩)
    have lq : l ≠ q := fun z => hq (z ▸ lL)
    have vq : v ≠ q := fun z => hq (z ▸ vL)
    have g1 := g0.tr (Gw.nw (u := w) (co := 142) hT hK hq (Or.inr (by omega)))
    have tl1 : va_up tg q w l = u := by rw [va_up_ne _ _ lq]; exact tl
    have g2 := g1.sP (a := l) (k := 1) (v := q) (Or.inr (Or.inl tl1))
    have g3 := g2.sP (a := q) (k := 0) (v := v) (Or.inl hq)
    have g4 := g3.sI (a := l) (k := 2) (v := 1) (Or.inr (Or.inl tl1))
    have p1 : up (up (clrN P q) l 1 q) q 0 v l 1 = q := by rw [up_bg lq, up_s]
    have p2 : up (up (clrN P q) l 1 q) q 0 v q 0 = v := up_s _ _ _ _
    subst h5
    refine H _ _ _ _ _ g4 ⟨by rw [up_s]; rfl, fun i hi => ?_, Or.inr ⟨10, by rw [p1, va_up_self], by decide, by decide, by omega⟩⟩ (fun i hi => absurd hi (Nat.not_lt_zero _)) ?_ ?_ ?_
    · obtain rfl : i = 0 := by omega
      rw [p1, p2, va_up_ne _ _ vq]; exact hv
    · show up (up (clrN P q) l 1 q) q 0 v (up (up (clrN P q) l 1 q) q 0 v l 1) 0 = v
      rw [p1, p2]
    · rw [p1]; exact fun _ => va_up_self _ _ _
    · intro b hb hbl
      rw [up_b hbl]
      have hbq : b ≠ q := fun z => hq (z ▸ hb)
      have : clr I0 q b = I0 b := by funext j; unfold clr; rw [if_neg hbq]
      rw [this]; exact fI b hb hbl
  · have r1 : P l 1 ≠ 1 := fun z => by
      rw [z] at k1
      have := hK.2
      omega
    have tr1 := tr r1
    have lr : l ≠ P l 1 := tg_ne tl tr1 huw
    by_cases c1 : n < n0
    · refine Or.inl ⟨n0, k1, by omega, by omega, by omega, ?_⟩
      rw [Int.toNat_natCast, wr_id (by omega) (by omega)]
      have g1 := g0.sP (a := P l 1) (k := n) (v := v) (Or.inr (Or.inr tr1))
      have g2 := g1.sI (a := l) (k := 2) (v := (n : Int) + 1) (Or.inr (Or.inl tl))
      have p1 : up P (P l 1) n v l 1 = P l 1 := by rw [up_bg lr]
      refine H _ _ _ _ _ g2 ⟨by rw [up_s]; rfl, fun i hi => ?_, Or.inr ⟨n0, by rw [p1]; exact k1, k2, k3, by omega⟩⟩ (fun i hi => ?_) ?_ (fun _ => by rw [p1]; exact tr1) (fun b hb hbl => by rw [up_b hbl]; exact fI b hb hbl)
      · rw [p1]
        by_cases z : i = n
        · rw [z, up_s]; exact hv
        · rw [up_k _ _ _ _ z]; exact h2 i (by omega)
      · show up P (P l 1) n v (up P (P l 1) n v l 1) i = _
        rw [p1, up_k _ _ _ _ (by omega)]
      · show up P (P l 1) n v (up P (P l 1) n v l 1) n = v
        rw [p1, up_s]
    · obtain rfl : n = n0 := by omega
      refine Or.inr (Or.inr ⟨n, ⟨k1, k2, by omega, e2, fun j hj => Or.inr (h2 j hj)⟩, fun q hq h1q => ?_⟩)
      have lq : l ≠ q := fun z => hq (z ▸ lL)
      have vq : v ≠ q := fun z => hq (z ▸ vL)
      have rL : P l 1 ∈ L := hT _ (by rw [tr1]; exact hw)
      have rq : P l 1 ≠ q := fun z => hq (z ▸ rL)
      have g1 := g0.tr (Gw.nw (u := w) (co := 102 + 4 * (n + n / 2)) hT hK hq (Or.inr (by omega)))
      have tl1 : va_up tg q w l = u := by rw [va_up_ne _ _ lq]; exact tl
      have g2 : Gw (fun z => z = u ∨ z = w) L tg K P I (L ++ [q]) (va_up tg q w) (va_up K q (102 + 4 * (n + n / 2))) (cpyP (clrN P q) (P l 1) q 0 0 n) (clr I0 q) := g1.fP (fun b hb _ => by
        funext j
        have hbq : b ≠ q := fun z => hq (z ▸ hb)
        have hn2 : ¬ (b = q ∧ 0 ≤ j ∧ j < 0 + n) := fun z => hbq z.1
        unfold cpyP
        rw [if_neg hn2])
      have g3 := g2.sP (a := l) (k := 1) (v := q) (Or.inr (Or.inl tl1))
      have g4 := g3.sP (a := q) (k := n) (v := v) (Or.inl hq)
      have g5 := g4.sI (a := l) (k := 2) (v := (n : Int) + 1) (Or.inr (Or.inl tl1))
      have p1 : up (up (cpyP (clrN P q) (P l 1) q 0 0 n) l 1 q) q n v l 1 = q := by rw [up_bg lq, up_s]
      have p2 : up (up (cpyP (clrN P q) (P l 1) q 0 0 n) l 1 q) q n v q n = v := up_s _ _ _ _
      have p3 : ∀ i, i < n → up (up (cpyP (clrN P q) (P l 1) q 0 0 n) l 1 q) q n v q i = P (P l 1) i := fun i hi => by
        rw [up_k _ _ _ _ (by omega), up_bg (Ne.symm lq)]
        unfold cpyP clrN
        rw [if_pos ⟨rfl, by omega, by omega⟩, if_neg rq]
        congr 1
        omega
      have hel : ∀ i, i < n → elt (up (up (cpyP (clrN P q) (P l 1) q 0 0 n) l 1 q) q n v) l i = elt P l i := fun i hi => by
        show up (up (cpyP (clrN P q) (P l 1) q 0 0 n) l 1 q) q n v (up (up (cpyP (clrN P q) (P l 1) q 0 0 n) l 1 q) q n v l 1) i = _
        rw [p1, p3 i hi]
      refine H _ _ _ _ _ g5 ⟨by rw [up_s]; rfl, fun i hi => ?_, Or.inr ⟨n + n / 2, by rw [p1, va_up_self], by omega, by omega, by omega⟩⟩ hel ?_ (fun _ => by rw [p1]; exact va_up_self _ _ _) ?_
      · rw [p1]
        by_cases z : i = n
        · rw [z, p2, va_up_ne _ _ vq]; exact hv
        · have hi2 : i < n := by omega
          have : P (P l 1) i ≠ q := fun y => hq (by
            rw [← y]
            exact hK.1 _ (by rw [h2 i hi2]; exact ht))
          rw [p3 i hi2, va_up_ne _ _ this]; exact h2 i hi2
      · show up (up (cpyP (clrN P q) (P l 1) q 0 0 n) l 1 q) q n v (up (up (cpyP (clrN P q) (P l 1) q 0 0 n) l 1 q) q n v l 1) n = v
        rw [p1, p2]
      · intro b hb hbl
        rw [up_b hbl]
        have hbq : b ≠ q := fun z => hq (z ▸ hb)
        have : clr I0 q b = I0 b := by funext j; unfold clr; rw [if_neg hbq]
        rw [this]; exact fI b hb hbl
theorem fil4_l {y : Int} : ∀ (d fuel k : Nat) (I : IT), d < fuel → k + d = 4 → ∃ I', f_J7_fill_116_5 K P fuel I a y (k : Int) 4 = some I' ∧ (∀ j, k ≤ j → j < 4 → I' a j = y) ∧ (∀ j, j < k → I' a j = I a j) ∧ ∀ b, b ≠ a → I' b = I b := by
  intro d
  induction d with
  | zero =>
    intro fuel k I hf hk
    obtain ⟨n, rfl⟩ : ∃ n, fuel = n + 1 := ⟨fuel - 1, by omega⟩
    unfold f_J7_fill_116_5
    rw [if_pos (by omega)]
    exact ⟨I, rfl, fun j h1 h2 => by omega, fun _ _ => rfl, fun _ _ => rfl⟩
  | succ d ih =>
    intro fuel k I hf hk
    obtain ⟨n, rfl⟩ : ∃ n, fuel = n + 1 := ⟨fuel - 1, by omega⟩
    unfold f_J7_fill_116_5
    rw [if_neg (by omega), ck_t (by omega), bnd_e, Int.toNat_natCast, show wr ((k : Int) + 1) = ((k + 1 : Nat) : Int) by rw [wr_id (by omega) (by omega)]; rfl]
    obtain ⟨I', u1, u2, u3, u4⟩ := ih n (k + 1) (up I a k y) (by omega) (by omega)
    refine ⟨I', u1, fun j h1 h2 => ?_, fun j hj => ?_, fun b hb => (u4 b hb).trans (up_b hb)⟩
    · by_cases z : j = k
      · rw [z, u3 k (by omega), up_s]
      · exact u2 j (by omega) h2
    · rw [u3 j (by omega), up_k _ _ _ _ (by omega)]
abbrev pg0 : Pg := (0, fun _ => 0, fun _ => 0)
abbrev tr0 : Nat → Tr := fun _ => ((0, fun _ => 0), 0)
/-- a problem is made: without solution, without tests -/
theorem mk_pb {lim : Nat} {chk : Int} {post : PO} (g : Gw Q L tg K P I L1 tg1 K1 P1 I1) (hq : q ∉ L) (hq1 : q ∈ L1) (tq : tg1 q = (4, i, 0))
    (H : ∀ L2 tg2 K2 P2 I2, Gw Q L tg K P I L2 tg2 K2 P2 I2 → q ∈ L2 → K2 q = 3 → PbR tg2 K2 P2 I2 i q (mkPb lim chk 0 pg0 0 tr0 (fun _ => 25)) → post L2 K2 P2 I2) : w_X2_init L1 K1 P1 I1 q (i : Int) (lim : Int) chk post := by
  unfold w_X2_init
  refine mk_prog (t := 4) (i := i) (c := 1) g.2.1 g.2.2 (fun b1 L2 tg2 K2 P2 I2 b2 b3 b4 b5 b6 b7 b8 => ?_)
  have g2 := g.tr (b4.wk (Q := Q))
  obtain ⟨x1, x2, x3, x4⟩ := b4.1 q hq1
  have tq2 : tg2 q = (4, i, 0) := x2.trans tq
  have g3 := g2.sP (a := q) (k := 2) (v := b1) (Or.inl hq)
  have d1 : b1 ≠ q := tg_ne b6.1.1 tq2 (by simp)
  have e1 : ∀ b, b ≠ q → up P2 q 2 b1 b = P2 b := fun b hb => up_bg hb
  have s1 : PgR tg2 (up P2 q 2 b1) I2 b1 4 i 1 pg0 := by
    unfold PgR PgI at b6 ⊢
    rw [e1 b1 d1]; exact b6
  refine mk_list (u := (4, i, 4)) 12 (by decide) g3.2.1 g3.2.2 (fun c1 L3 tg3 K3 P3 I3 c2 c3 c4 c5 c6 c7 c8 => ?_)
  have g4 := g3.tr (c4.wk (Q := Q))
  obtain ⟨y1, y2, y3, y4⟩ := c4.1 q x1
  have tq3 : tg3 q = (4, i, 0) := y2.trans tq2
  have s2 := s1.gw c4 g3.2.1 (by decide) (fun _ => id)
  have g5 := g4.sP (a := q) (k := 3) (v := c1) (Or.inl hq)
  have d2 : c1 ≠ q := tg_ne c6 tq3 (by simp)
  have e2 : ∀ b, b ≠ q → up P3 q 3 c1 b = P3 b := fun b hb => up_bg hb
  have s3 : PgR tg3 (up P3 q 3 c1) I3 b1 4 i 1 pg0 := by
    unfold PgR PgI at s2 ⊢
    rw [e2 b1 d1]; exact s2
  unfold bndP
  refine mk_obj (u := (4, i, 5)) (co := 116) (by decide) g5.2.1 g5.2.2 (fun z1 L4 tg4 K4 P4 I4 z2 z3 z4 z5 z6 => ?_)
  have g6 := g5.tr (z4.wk (Q := Q))
  obtain ⟨w1, w2, w3, w4⟩ := z4.1 q y1
  have tq4 : tg4 q = (4, i, 0) := w2.trans tq3
  have s4 := s3.gw z4 g5.2.1 (by decide) (fun _ => id)
  obtain ⟨v1, v2, v3, v4⟩ := z4.1 c1 c3
  have d3 : z1 ≠ q := tg_ne z6 tq4 (by simp)
  have g7 := g6.sP (a := q) (k := 4) (v := z1) (Or.inl hq)
  have e3 : ∀ b, b ≠ q → up P4 q 4 z1 b = P4 b := fun b hb => up_bg hb
  have p4 : up P4 q 4 z1 q 4 = z1 := up_s _ _ _ _
  have p3 : up P4 q 4 z1 q 3 = c1 := by rw [up_k _ _ _ _ (by decide), (w4 id).1, up_s]
  have p2 : up P4 q 4 z1 q 2 = b1 := by rw [up_k _ _ _ _ (by decide), (w4 id).1, up_k _ _ _ _ (by decide), (y4 id).1, up_s]
  have g8 := ((((g7.sI (a := q) (k := 6) (v := 0) (Or.inl hq)).sI (a := q) (k := 0) (v := (i : Int)) (Or.inl hq)).sI (a := q) (k := 1) (v := (lim : Int)) (Or.inl hq)).sI (a := q) (k := 5) (v := chk) (Or.inl hq))
  have f6 : up (up (up (up I4 q 6 0) q 0 (i : Int)) q 1 (lim : Int)) q 5 chk q 6 = 0 := by rw [up_k _ _ _ _ (by decide), up_k _ _ _ _ (by decide), up_k _ _ _ _ (by decide), up_s]
  have f0 : up (up (up (up I4 q 6 0) q 0 (i : Int)) q 1 (lim : Int)) q 5 chk q 0 = (i : Int) := by rw [up_k _ _ _ _ (by decide), up_k _ _ _ _ (by decide), up_s]
  have f1 : up (up (up (up I4 q 6 0) q 0 (i : Int)) q 1 (lim : Int)) q 5 chk q 1 = (lim : Int) := by rw [up_k _ _ _ _ (by decide), up_s]
  have f5 : up (up (up (up I4 q 6 0) q 0 (i : Int)) q 1 (lim : Int)) q 5 chk q 5 = chk := up_s _ _ _ _
  have fo : ∀ b, b ≠ q → up (up (up (up I4 q 6 0) q 0 (i : Int)) q 1 (lim : Int)) q 5 chk b = I4 b := fun b hb => by rw [up_b hb, up_b hb, up_b hb, up_b hb]
  show bpP (f_J7_fill_116 K4 (up P4 q 4 z1) (up (up (up (up I4 q 6 0) q 0 (i : Int)) q 1 (lim : Int)) q 5 chk) (up P4 q 4 z1 q 4) 25) _
  rw [p4]
  generalize up (up (up (up I4 q 6 0) q 0 (i : Int)) q 1 (lim : Int)) q 5 chk = I5 at g8 f6 f0 f1 f5 fo ⊢
  obtain ⟨I6, k1, k2, -, k4⟩ := fil4_l (K := K4) (P := up P4 q 4 z1) (a := z1) (y := 25) 4 FU 0 I5 (by decide) (by decide)
  refine ⟨I6, k1, ?_⟩
  have in5 : ∀ b, b ∈ L → b ≠ z1 := fun b hb z => z2 (z ▸ (g5.1 b hb).1)
  have g9 : Gw Q L tg K P I L4 tg4 K4 (up P4 q 4 z1) I6 := g8.fI (fun b hb _ => k4 b (in5 b hb))
  have g10 := g9.sK (a := q) (co := 3) hq w1 (by decide)
  have qz : q ≠ z1 := Ne.symm d3
  have cz : c1 ≠ z1 := tg_ne (v2.trans c6) z6 (by simp)
  refine H _ _ _ _ _ g10 w1 (va_up_self _ _ _) ⟨⟨tq4, ?_, ?_, ?_⟩, ⟨?_, ?_, ?_, ?_⟩, ?_, ⟨?_, fun i hi => absurd hi (Nat.not_lt_zero _), Or.inl ⟨?_, rfl⟩⟩, fun j hj => absurd hj (Nat.not_lt_zero _), fun k hk => ?_⟩
  · rw [p3]; exact v2.trans c6
  · rw [p4]; exact z6
  · rw [p3, e3 c1 d2, (v4 id).1, up_bg d2, c7]; exact fun z => absurd rfl z
  · rw [k4 q qz]; exact f0
  · rw [k4 q qz]; exact f1
  · rw [k4 q qz]; exact f5
  · rw [k4 q qz]; exact f6
  · rw [p2]
    obtain ⟨⟨m1, m2, m3⟩, m4, m5⟩ := s4
    have bq : b1 ≠ q := d1
    refine ⟨⟨m1, by rw [e3 b1 bq]; exact m2, by rw [e3 b1 bq]; exact m3⟩, ?_, fun j hj => absurd hj (Nat.not_lt_zero _)⟩
    rw [k4 b1 (tg_ne m1 z6 (by simp)), fo b1 bq]; exact m4
  · rw [p3, k4 c1 cz, fo c1 d2, (v4 id).2, c8]; rfl
  · rw [p3, e3 c1 d2, (v4 id).1, up_bg d2, c7]
  · rw [p4]; exact k2 k (Nat.zero_le _) hk
/-- an entry is made: it waits -/
theorem mk_en {x1 x3 : Int} {a2 e : Nat} {post : PO} (g : Gw Q L tg K P I L1 tg1 K1 P1 I1) (hq : q ∉ L) (hq1 : q ∈ L1) (tq : tg1 q = (6, e, 0))
    (H : ∀ L2 tg2 K2 P2 I2, Gw Q L tg K P I L2 tg2 K2 P2 I2 → q ∈ L2 → K2 q = 1 → tg2 q = (6, e, 0) → PgR tg2 P2 I2 (P2 q 3) 6 e 1 pg0 → P2 q 1 = a2 → (I2 q 0 = x1 ∧ I2 q 2 = x3 ∧ I2 q 4 = -1 ∧ I2 q 5 = -1 ∧ I2 q 6 = 0 ∧ I2 q 7 = -1) → post L2 K2 P2 I2) : w_X0_init L1 K1 P1 I1 q x1 a2 x3 post := by
  unfold w_X0_init
  refine mk_prog (t := 6) (i := e) (c := 1) g.2.1 g.2.2 (fun b1 L2 tg2 K2 P2 I2 b2 b3 b4 b5 b6 b7 b8 => ?_)
  have g2 := g.tr (b4.wk (Q := Q))
  obtain ⟨y1, y2, y3, y4⟩ := b4.1 q hq1
  have tq2 : tg2 q = (6, e, 0) := y2.trans tq
  have d1 : b1 ≠ q := tg_ne b6.1.1 tq2 (by simp)
  have g3 := (g2.sP (a := q) (k := 3) (v := b1) (Or.inl hq)).sP (a := q) (k := 1) (v := a2) (Or.inl hq)
  have g4 := ((((((g3.sI (a := q) (k := 4) (v := -1) (Or.inl hq)).sI (a := q) (k := 5) (v := -1) (Or.inl hq)).sI (a := q) (k := 6) (v := 0) (Or.inl hq)).sI (a := q) (k := 7) (v := -1) (Or.inl hq)).sI (a := q) (k := 0) (v := x1) (Or.inl hq)).sI (a := q) (k := 2) (v := x3) (Or.inl hq))
  have p3 : up (up P2 q 3 b1) q 1 a2 q 3 = b1 := by rw [up_k _ _ _ _ (by decide), up_s]
  have pb : up (up P2 q 3 b1) q 1 a2 b1 = P2 b1 := by rw [up_bg d1, up_bg d1]
  refine H _ _ _ _ _ (g4.sK (a := q) (co := 1) hq y1 (by decide)) y1 (va_up_self _ _ _) tq2 ?_ (up_s _ _ _ _) ⟨?_, up_s _ _ _ _, ?_, ?_, ?_, ?_⟩
  · rw [p3]
    unfold PgR PgI at b6 ⊢
    rw [pb, up_b d1, up_b d1, up_b d1, up_b d1, up_b d1, up_b d1]
    exact ⟨b6.1, b6.2.1, fun j hj => absurd hj (Nat.not_lt_zero _)⟩
  · rw [up_k _ _ _ _ (by decide), up_s]
  · rw [up_k _ _ _ _ (by decide), up_k _ _ _ _ (by decide), up_k _ _ _ _ (by decide), up_k _ _ _ _ (by decide), up_k _ _ _ _ (by decide), up_s]
  · rw [up_k _ _ _ _ (by decide), up_k _ _ _ _ (by decide), up_k _ _ _ _ (by decide), up_k _ _ _ _ (by decide), up_s]
  · rw [up_k _ _ _ _ (by decide), up_k _ _ _ _ (by decide), up_k _ _ _ _ (by decide), up_s]
  · rw [up_k _ _ _ _ (by decide), up_k _ _ _ _ (by decide), up_s]
end MK2
