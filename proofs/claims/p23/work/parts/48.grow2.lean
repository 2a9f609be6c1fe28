section GW2
variable {Q Q2 : Nat × Nat × Nat → Prop} {L L1 L2 : List Nat} {tg tg1 tg2 : Tg} {K K1 K2 : KT} {P P1 P2 : PT} {I I1 I2 : IT} {a x m t i j c l n q : Nat} {u w : Nat × Nat × Nat} {s : Hl}
theorem PbR.gw {b : Pb} (h : PbR tg K P I i a b) (hg : Gw Q L tg K P I L1 tg1 K1 P1 I1) (hT : TL tg L) (hK : KL K L) (hq : ∀ k, ¬ Q (4, i, k)) (hq2 : ∀ k, ¬ Q (5, i, k)) : PbR tg1 K1 P1 I1 i a b := by
  obtain ⟨⟨t1, t2, t3, t4⟩, h2, h3, h4, h5, h6⟩ := h
  obtain ⟨p1, i1⟩ := hg.at hT t1 (show 4 < 20 by decide) (hq _)
  obtain ⟨l1, l2, l3⟩ := h4.gw hg hT hK t2 (show 4 < 20 by decide) (hq _) t4 (show 4 < 20 by decide) (hq _) (by decide)
  unfold PbR
  rw [p1, i1]
  refine ⟨⟨hg.ta hT t1 (show 4 < 20 by decide), hg.ta hT t2 (show 4 < 20 by decide), hg.ta hT t3 (show 4 < 20 by decide), fun z => ?_⟩, h2, h3.gw hg hT (by decide) hq, l1, fun j hj => ?_, fun k hk => ?_⟩
  · rw [l3] at z ⊢
    exact hg.ta hT (t4 z) (show 4 < 20 by decide)
  · rw [l2 j hj]; exact (h5 j hj).gw hg hT hq2
  · rw [(hg.at hT t3 (show 4 < 20 by decide) (hq _)).2]; exact h6 k hk
theorem EnR.gw {n : En} {pl e : Nat} (h : EnR tg P I pl e a n) (hg : Gw Q L tg K P I L1 tg1 K1 P1 I1) (hT : TL tg L) (hq : ∀ k, ¬ Q (6, e, k)) (hp : elt P1 pl n.prob = elt P pl n.prob) : EnR tg1 P1 I1 pl e a n := by
  obtain ⟨h1, h2, h3, h4⟩ := h
  obtain ⟨p1, i1⟩ := hg.at hT h1 (show 6 < 20 by decide) (hq _)
  unfold EnR
  rw [p1, i1]
  exact ⟨hg.ta hT h1 (show 6 < 20 by decide), h2.gw hg hT (by decide) hq, h3.trans hp.symm, h4⟩
/-- tags of what no maker changes -/
def Qb (Q : Nat × Nat × Nat → Prop) : Prop := ∀ u : Nat × Nat × Nat, (u.1 ≤ 3 ∨ u.1 = 7 ∨ u.1 = 8) → ¬ Q u
theorem HRx.gw {mi fz : Int} (h : HRx tg K I x mi fz) (hg : Gw Q L tg K P I L1 tg1 K1 P1 I1) (hT : TL tg L) (hK : KL K L) (hq : Qb Q) : HRx tg1 K1 I1 x mi fz := by
  obtain ⟨h1, h2, h3, h4⟩ := h
  obtain ⟨p1, i1⟩ := hg.at hT h1 (show 0 < 20 by decide) (hq _ (by decide))
  exact ⟨hg.ta hT h1 (show 0 < 20 by decide), (hg.k hK (by rw [h2]; decide)).trans h2, by rw [i1]; exact h3, by rw [i1]; exact h4⟩
theorem HRs.gw (h : HRs tg P x) (h0 : tg x = (0, 0, 0)) (hg : Gw Q L tg K P I L1 tg1 K1 P1 I1) (hT : TL tg L) (hq : Qb Q) : HRs tg1 P1 x := by
  obtain ⟨⟨h1, h2, h3, h4, h5⟩, ⟨h6, h7⟩, h8⟩ := h
  have p0 := (hg.at hT h0 (show 0 < 20 by decide) (hq _ (by decide))).1
  have p1 := (hg.at hT h1 (show 3 < 20 by decide) (hq _ (by decide))).1
  have p2 := (hg.at hT h2 (show 3 < 20 by decide) (hq _ (by decide))).1
  have p4 := (hg.at hT h4 (show 3 < 20 by decide) (hq _ (by decide))).1
  have p5 := (hg.at hT h6 (show 7 < 20 by decide) (hq _ (by decide))).1
  unfold HRs
  rw [p0, p1, p2, p4, p5]
  exact ⟨⟨hg.ta hT h1 (show 3 < 20 by decide), hg.ta hT h2 (show 3 < 20 by decide), hg.ta hT h3 (show 3 < 20 by decide), hg.ta hT h4 (show 3 < 20 by decide), hg.ta hT h5 (show 3 < 20 by decide)⟩, ⟨hg.ta hT h6 (show 7 < 20 by decide), fun k hk => hg.ta hT (h7 k hk) (show 7 < 20 by decide)⟩, hg.ta hT h8 (show 8 < 20 by decide)⟩
theorem HRd.gw {g : Pg} {r : Rw} (h : HRd tg P I x g r) (h0 : tg x = (0, 0, 0)) (hg : Gw Q L tg K P I L1 tg1 K1 P1 I1) (hT : TL tg L) (hq : Qb Q) : HRd tg1 P1 I1 x g r := by
  have p0 := (hg.at hT h0 (show 0 < 20 by decide) (hq _ (by decide))).1
  unfold HRd
  rw [p0]
  exact ⟨h.1.gw hg hT (by decide) (fun k => hq _ (Or.inl (show 1 ≤ 3 by decide))), h.2.gw hg hT (by decide) (fun k => hq _ (Or.inl (show 2 ≤ 3 by decide)))⟩
theorem HRa.gw {r j h : Nat → Int} (z : HRa tg P I x r j h) (h0 : tg x = (0, 0, 0)) (hg : Gw Q L tg K P I L1 tg1 K1 P1 I1) (hT : TL tg L) (hq : Qb Q) : HRa tg1 P1 I1 x r j h := by
  obtain ⟨⟨h1, h2, h3⟩, h4, h5, h6⟩ := z
  have p0 := (hg.at hT h0 (show 0 < 20 by decide) (hq _ (by decide))).1
  have p1 := (hg.at hT h1 (show 8 < 20 by decide) (hq _ (by decide))).2
  have p2 := (hg.at hT h2 (show 8 < 20 by decide) (hq _ (by decide))).2
  have p3 := (hg.at hT h3 (show 8 < 20 by decide) (hq _ (by decide))).2
  unfold HRa
  rw [p0, p1, p2, p3]
  exact ⟨⟨hg.ta hT h1 (show 8 < 20 by decide), hg.ta hT h2 (show 8 < 20 by decide), hg.ta hT h3 (show 8 < 20 by decide)⟩, h4, h5, h6⟩
theorem HRp.gw {np : Nat} {pb : Nat → Pb} (h : HRp tg K P I x np pb) (h0 : tg x = (0, 0, 0)) (hg : Gw Q L tg K P I L1 tg1 K1 P1 I1) (hT : TL tg L) (hK : KL K L) (hq : Qb Q) (h3 : ¬ Q (9, 0, 3)) (h13 : ¬ Q (9, 0, 13)) (h4 : ∀ i k, ¬ Q (4, i, k)) (h5 : ∀ i k, ¬ Q (5, i, k)) : HRp tg1 K1 P1 I1 x np pb ∧ ∀ i, i < np → elt P1 (P1 x 3) i = elt P (P x 3) i := by
  obtain ⟨⟨t1, t2⟩, l, hp⟩ := h
  have p0 := (hg.at hT h0 (show 0 < 20 by decide) (hq _ (by decide))).1
  obtain ⟨l1, l2, l3⟩ := l.gw hg hT hK t1 (show 9 < 20 by decide) h3 t2 (show 9 < 20 by decide) h13 (by decide)
  unfold HRp
  rw [p0]
  refine ⟨⟨⟨hg.ta hT t1 (show 9 < 20 by decide), fun z => ?_⟩, l1, fun i hi => ?_⟩, l2⟩
  · rw [l3] at z ⊢; exact hg.ta hT (t2 z) (show 9 < 20 by decide)
  · rw [l2 i hi]; exact (hp i hi).gw hg hT hK (h4 i) (h5 i)
theorem HRe.gw {ne np : Nat} {en : Nat → En} (h : HRe tg K P I x ne en) (h0 : tg x = (0, 0, 0)) (hg : Gw Q L tg K P I L1 tg1 K1 P1 I1) (hT : TL tg L) (hK : KL K L) (hq : Qb Q) (h3 : ¬ Q (9, 0, 4)) (h13 : ¬ Q (9, 0, 14)) (h6 : ∀ i k, ¬ Q (6, i, k)) (hn : ∀ e, e < ne → (en e).prob < np) (hp : ∀ i, i < np → elt P1 (P x 3) i = elt P (P x 3) i) : HRe tg1 K1 P1 I1 x ne en := by
  obtain ⟨⟨t1, t2⟩, l, he⟩ := h
  have p0 := (hg.at hT h0 (show 0 < 20 by decide) (hq _ (by decide))).1
  obtain ⟨l1, l2, l3⟩ := l.gw hg hT hK t1 (show 9 < 20 by decide) h3 t2 (show 9 < 20 by decide) h13 (by decide)
  unfold HRe
  rw [p0]
  refine ⟨⟨hg.ta hT t1 (show 9 < 20 by decide), fun z => ?_⟩, l1, fun i hi => ?_⟩
  · rw [l3] at z ⊢; exact hg.ta hT (t2 z) (show 9 < 20 by decide)
  · rw [l2 i hi]; exact (he i hi).gw hg hT (h6 i) (hp _ (hn i hi))
/-- nothing of the hall is in Q -/
theorem HR.gw (h : HR tg K P I x s) (hs : s.ok) (hg : Gw Q L tg K P I L1 tg1 K1 P1 I1) (hT : TL tg L) (hK : KL K L) (hq : ∀ u : Nat × Nat × Nat, u.1 ≤ 10 → ¬ Q u) : HR tg1 K1 P1 I1 x s := by
  obtain ⟨a1, a2, a3, a4, a5, a6⟩ := h
  have hb : Qb Q := fun u hu => hq u (by omega)
  have p0 := (hg.at hT a1.1 (show 0 < 20 by decide) (hb _ (by decide))).1
  obtain ⟨b4, b5⟩ := a4.gw a1.1 hg hT hK hb (hq _ (by decide)) (hq _ (by decide)) (fun i k => hq _ (show 4 ≤ 10 by decide)) (fun i k => hq _ (show 5 ≤ 10 by decide))
  exact ⟨a1.gw hg hT hK hb, a2.gw a1.1 hg hT hb, a3.gw a1.1 hg hT hb, b4, a5.gw (np := s.np) a1.1 hg hT hK hb (hq _ (by decide)) (hq _ (by decide)) (fun i k => hq _ (show 6 ≤ 10 by decide)) (fun e he => (hs.2.2.2.2.2.1 e he).2.1) (fun i hi => by rw [← b5 i hi, p0]), a6.gw a1.1 hg hT hb⟩
theorem MH.cP (h : MH tg P I m s) (hp : P1 m = P m) : MH tg P1 I m s := by
  unfold MH XT XPb XEn XAr XNew XPg XIn at h ⊢
  rw [hp]
  exact h
theorem MH.gw (h : MH tg P I m s) (hs : s.ok) (hg : Gw Q L tg K P I L1 tg1 K1 P1 I1) (hT : TL tg L) (hq : ∀ u : Nat × Nat × Nat, 11 ≤ u.1 → ¬ Q u) : MH tg1 P1 I1 m s := by
  obtain ⟨p0, i0⟩ := hg.at hT h.1.1 (show 11 < 20 by decide) (hq _ (show 11 ≤ 11 by decide))
  have hi : ∀ k, tt 9 k ≠ 0 → I1 (P m k) = I (P m k) := fun k hk => (hg.at hT (h.1.2 k hk) (show 12 < 20 by decide) (hq _ (show 11 ≤ 12 by decide))).2
  have h1 : MH tg P I1 m s := h.w hs (fun k j hk _ => by rw [hi k hk]) (fun j _ => by rw [i0])
  have h2 := h1.cP p0
  refine ⟨⟨hg.ta hT h.1.1 (show 11 < 20 by decide), fun k hk => ?_⟩, h2.2⟩
  rw [p0]
  exact hg.ta hT (h.1.2 k hk) (show 12 < 20 by decide)
end GW2
