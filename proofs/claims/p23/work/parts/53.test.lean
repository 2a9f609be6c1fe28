def addTr (b : Pb) (r : Rw) (g : Int) : Pb := mkPb b.lim b.chk (wr (b.ver + 1)) b.sol (b.nt + 1) (updf b.tr b.nt (r, g)) b.pts
def testS (s : Hl) (p g : Int) : Out := if 0 ≤ p ∧ p < (s.np : Int) then (if 0 ≤ g ∧ g < 4 then (if (s.pb p.toNat).nt < 12 then (if (runA (s.pb p.toNat).sol s.din 500).e = 0 then (0, ((s.pb p.toNat).nt : Int), (s.sP1 p.toNat (addTr (s.pb p.toNat) s.din g)).sDin (0, s.din.2)) else (2, 0, s)) else (2, 0, s)) else (3, 0, s)) else (3, 0, s)
theorem addTr_ok {b : Pb} {r : Rw} {g : Int} (h : b.ok) (hr : r.ok) (hg : 0 ≤ g ∧ g ≤ 3) (hn : b.nt < 12) (ha : (runA b.sol r 500).e = 0) : (addTr b r g).ok := by
  obtain ⟨h1, h2, h3, h4, h5, h6⟩ := h
  refine ⟨h1, h2, h3, hn, fun j hj => ?_, h6⟩
  have hj : j < b.nt + 1 := hj
  show (updf b.tr b.nt (r, g) j).1.ok ∧ (0 ≤ (updf b.tr b.nt (r, g) j).2 ∧ (updf b.tr b.nt (r, g) j).2 ≤ 3) ∧ (runA b.sol (updf b.tr b.nt (r, g) j).1 500).e = 0
  unfold updf
  by_cases z : j = b.nt
  · rw [if_pos z]; exact ⟨hr, hg, ha⟩
  · rw [if_neg z]; exact h5 j (by omega)
theorem Hl.din0_ok {s : Hl} (h : s.ok) : (s.sDin (0, s.din.2)).ok := ⟨h.1, ⟨Nat.zero_le _, fun j hj => absurd hj (Nat.not_lt_zero _)⟩, h.2.2⟩
theorem testS_ok {s : Hl} (h : s.ok) {p g : Int} : (testS s p g).2.2.ok := by
  unfold testS
  by_cases c1 : 0 ≤ p ∧ p < (s.np : Int)
  · rw [if_pos c1]
    by_cases c2 : 0 ≤ g ∧ g < 4
    · rw [if_pos c2]
      by_cases c3 : (s.pb p.toNat).nt < 12
      · rw [if_pos c3]
        by_cases c4 : (runA (s.pb p.toNat).sol s.din 500).e = 0
        · rw [if_pos c4]
          exact Hl.din0_ok (s := s.sP1 p.toNat (addTr (s.pb p.toNat) s.din g)) (Hl.p1_ok h (addTr_ok (h.2.2.2.1 _ (by omega)) h.2.1 (by omega) c3 c4))
        · rw [if_neg c4]; exact h
      · rw [if_neg c3]; exact h
    · rw [if_neg c2]; exact h
  · rw [if_neg c1]; exact h
section TE1
variable {Q : Nat × Nat × Nat → Prop} {L L1 : List Nat} {tg tg1 : Tg} {K K1 : KT} {P P1 : PT} {I I1 : IT} {x m p q a t i c : Nat} {s : Hl} {gr : Int}
theorem PgR.gw3 {g : Pg} (h : PgR tg P I a t i c g) (hg : Gw Q L tg K P I L1 tg1 K1 P1 I1) (hT : TL tg L) (ht : t < 20) (hq : ∀ k, k < 3 → ¬ Q (t, i, c + k)) : PgR tg1 P1 I1 a t i c g := by
  obtain ⟨⟨h1, h2, h3⟩, h4⟩ := h
  obtain ⟨p1, i1⟩ := hg.at hT h1 ht (hq 0 (by decide))
  refine ⟨⟨hg.ta hT h1 ht, by rw [p1]; exact hg.ta hT h2 ht, by rw [p1]; exact hg.ta hT h3 ht⟩, ?_⟩
  unfold PgI
  rw [p1, i1, (hg.at hT h2 ht (hq 1 (by decide))).2, (hg.at hT h3 ht (hq 2 (by decide))).2]
  exact h4
/-- a trial is made out of the desk's input and the machine's output -/
theorem mk_trial2 {o : Rw} {j : Nat} {f : Nat → PO} (h : HR tg K P I x s) (hs : s.ok) (hT : TL tg L) (hK : KL K L) (ho : RowI P I (P (P x 2) 1) o) (ho8 : o.1 ≤ 8)
    (H : ∀ q L2 tg2 K2 P2 I2, Gw (fun _ => False) L tg K P I L2 tg2 K2 P2 I2 → q ∈ L2 → K2 q = 7 → TrR tg2 P2 I2 i j q s.din o gr → f q L2 K2 P2 I2) : nwP L K P I 27 fun q L1 K1 P1 I1 => w_X6_init L1 K1 P1 I1 q (P1 x 1) (P1 (P1 x 2) 1) gr (f q) := by
  refine mk_obj (u := (5, i, 8 * j)) (co := 27) (by decide) hT hK (fun q L6 tg6 K6 P6 I6 a1 a2 g6 a4 a5 => ?_)
  have h6 := h.gw hs g6 hT hK (fun _ _ => id)
  have r2 : RwR tg P I (P (P x 2) 1) 3 0 3 o := ⟨⟨h.2.1.1.2.2.2.1, h.2.1.1.2.2.2.2⟩, ho⟩
  have px := (g6.at hT h.1.1 (show 0 < 20 by decide) id).1
  have pm := (g6.at hT h.2.1.1.1 (show 3 < 20 by decide) id).1
  have r3 := r2.gw g6 hT (by decide) (fun _ => id)
  have em : P6 (P6 x 2) 1 = P (P x 2) 1 := by rw [px, pm]
  rw [em]
  exact mk_trial g6 a1 a2 a5 h6.2.2.1.2 r3 ⟨by decide, by decide⟩ ⟨by decide, by decide⟩ (by have := hs.2.1.1; show s.din.n ≤ 8; omega) ho8 (fun L2 tg2 K2 P2 I2 b1 b2 b3 b4 => H q L2 tg2 K2 P2 I2 b1 b2 b3 b4)
/-- a problem gets one more test -/
theorem h_addTrial {r : Rw} {post : PO} (h : HR tg K P I x s) (hs : s.ok) (hT : TL tg L) (hK : KL K L) (hp : p < s.np) (hn : (s.pb p).nt < 12) (hq : K q = 7) (ht : TrR tg P I p (s.pb p).nt q r (runA (s.pb p).sol r 500).o gr)
    (H : ∀ L1 tg1 K1 P1 I1, Gw (fun u => u.1 = 4 ∧ u.2.1 = p) L tg K P I L1 tg1 K1 P1 I1 → HR tg1 K1 P1 I1 x (s.sP1 p (addTr (s.pb p) r gr)) → P1 (elt P (P x 3) p) = P (elt P (P x 3) p) → elt P1 (P1 x 3) p = elt P (P x 3) p → post L1 K1 P1 I1) : w_X2_addTrial L K P I (elt P (P x 3) p) q post := by
  obtain ⟨a1, a2, a3, a4, a5, a6⟩ := h
  have hp2 := a4.2.2 p hp
  obtain ⟨⟨t1, t2, t3, t4⟩, i1, s1, l0, tr1, pt1⟩ := hp2
  unfold w_X2_addTrial
  refine mk_add (u := (4, p, 4)) (w := (4, p, 6)) l0 (by omega) t2 (show 4 < 20 by decide) t4 (show 4 < 20 by decide) (by simp) hq (by decide) hT hK (fun L1 tg1 K1 P1 I1 g l1 l2 l3 l4 l5 => ?_)
  have g4 : Gw (fun u => u.1 = 4 ∧ u.2.1 = p) L tg K P I L1 tg1 K1 P1 I1 := g.mono (fun u z => by
    rcases z with z | z
    · rw [z]; exact ⟨rfl, rfl⟩
    · rw [z]; exact ⟨rfl, rfl⟩)
  have tp1 : tg1 (elt P (P x 3) p) = (4, p, 0) := g.ta hT t1 (show 4 < 20 by decide)
  obtain ⟨pp, pi⟩ := g.at hT t1 (show 4 < 20 by decide) (by simp)
  have e6 : I1 (elt P (P x 3) p) 6 = (s.pb p).ver := by rw [pi]; exact i1.2.2.2
  have g5 := g4.sI (a := elt P (P x 3) p) (k := 6) (v := wr (I1 (elt P (P x 3) p) 6 + 1)) (Or.inr (by rw [tp1]; exact ⟨rfl, rfl⟩))
  have hb : Qb (fun u : Nat × Nat × Nat => u.1 = 4 ∧ u.2.1 = p) := fun u hu z => by
    have := z.1
    omega
  have p0 : P1 x = P x := (g5.at hT a1.1 (show 0 < 20 by decide) (hb _ (by decide))).1
  obtain ⟨m1, m2, m3⟩ := a4.2.1.gw g5 hT hK a4.1.1 (show 9 < 20 by decide) (by simp) a4.1.2 (show 9 < 20 by decide) (by simp) (by decide)
  have hel : elt P1 (P1 x 3) p = elt P (P x 3) p := by rw [p0]; exact m2 p hp
  have nx : ∀ b, b ≠ elt P (P x 3) p → up I1 (elt P (P x 3) p) 6 (wr (I1 (elt P (P x 3) p) 6 + 1)) b = I1 b := fun b hb => up_b hb
  refine H _ _ _ _ _ g5 ⟨a1.gw g5 hT hK hb, a2.gw a1.1 g5 hT hb, a3.gw a1.1 g5 hT hb, ?_, a5.gw (np := s.np) a1.1 g5 hT hK hb (by simp) (by simp) (fun i k => by simp) (fun e he => (hs.2.2.2.2.2.1 e he).2.1) (fun i hi => m2 i hi), a6.gw a1.1 g5 hT hb⟩ pp hel
  unfold HRp
  rw [p0]
  refine ⟨⟨g5.ta hT a4.1.1 (show 9 < 20 by decide), fun z => by rw [m3] at z ⊢; exact g5.ta hT (a4.1.2 z) (show 9 < 20 by decide)⟩, m1, fun i hi => ?_⟩
  show PbR tg1 K1 P1 _ i (elt P1 (P x 3) i) (updf s.pb p (addTr (s.pb p) r gr) i)
  rw [m2 i hi]
  unfold updf
  by_cases z : i = p
  · rw [if_pos z, z]
    have ps := s1.gw3 g hT (show 4 < 20 by decide) (fun k hk z => by
      simp only [Prod.mk.injEq] at z
      omega)
    have dq : ∀ b u, tg1 b = u → u ≠ (4, p, 0) → b ≠ elt P (P x 3) p := fun b u hb hu => tg_ne hb tp1 hu
    refine ⟨⟨tp1, by rw [pp]; exact g.ta hT t2 (show 4 < 20 by decide), by rw [pp]; exact g.ta hT t3 (show 4 < 20 by decide), by rw [pp]; exact l4⟩, ⟨?_, ?_, ?_, ?_⟩, ?_, ?_, fun j hj => ?_, fun k hk => ?_⟩
    · rw [up_k _ _ _ _ (by decide), pi]; exact i1.1
    · rw [up_k _ _ _ _ (by decide), pi]; exact i1.2.1
    · rw [up_k _ _ _ _ (by decide), pi]; exact i1.2.2.1
    · rw [up_s, e6]; rfl
    · rw [pp]
      refine ⟨ps.1, ps.2.fr (nx _ (dq _ _ ps.1.1 (by simp))) (nx _ (dq _ _ ps.1.2.1 (by simp))) (nx _ (dq _ _ ps.1.2.2 (by simp)))⟩
    · rw [pp]
      exact l1.fr (nx _ (dq _ _ (g.ta hT t2 (show 4 < 20 by decide)) (by simp)))
    · rw [pp]
      have hj : j < (s.pb p).nt + 1 := hj
      have key : TrR tg1 P1 I1 p j (elt P1 (P (elt P (P x 3) p) 3) j) ((addTr (s.pb p) r gr).tr j).1 ((addTr (s.pb p) r gr).ans j) ((addTr (s.pb p) r gr).tr j).2 := by
        show TrR tg1 P1 I1 p j (elt P1 (P (elt P (P x 3) p) 3) j) (updf (s.pb p).tr (s.pb p).nt (r, gr) j).1 (runA (s.pb p).sol (updf (s.pb p).tr (s.pb p).nt (r, gr) j).1 500).o (updf (s.pb p).tr (s.pb p).nt (r, gr) j).2
        unfold updf
        by_cases y : j = (s.pb p).nt
        · rw [if_pos y, y, l3]
          exact ht.gw g hT (fun k => by simp)
        · rw [if_neg y, l2 j (by omega)]
          exact (tr1 j (by omega)).gw g hT (fun k => by simp)
      obtain ⟨y1, y2, y3, y4⟩ := key
      refine ⟨y1, ⟨y2.1, y2.2.fr (nx _ (dq _ _ y2.1.1 (by simp))) (nx _ (dq _ _ y2.1.2 (by simp)))⟩, ⟨y3.1, y3.2.fr (nx _ (dq _ _ y3.1.1 (by simp))) (nx _ (dq _ _ y3.1.2 (by simp)))⟩, ?_⟩
      rw [nx _ (dq _ _ y1 (by simp))]; exact y4
    · rw [pp, nx _ (dq _ _ (g.ta hT t3 (show 4 < 20 by decide)) (by simp)), (g.at hT t3 (show 4 < 20 by decide) (by simp)).2]
      exact pt1 k hk
  · rw [if_neg z]
    exact (a4.2.2 i hi).gw g5 hT hK (fun k => by simp [z]) (fun k => by simp)
theorem h_test {v w : Int} (h : HR tg K P I x s) (hs : s.ok) (hT : TL tg L) (hK : KL K L) : w_X7_test L K P I x v w (KOut tg P I x (testS s v w)) := by
  unfold w_X7_test testS
  by_cases c1 : 0 ≤ v ∧ v < (s.np : Int)
  · rw [if_pos c1]
    refine ⟨_, _, _, (h_pAt h).trans (by rw [if_pos c1]), fun hc => absurd rfl hc, fun _ => ⟨h.2.2.2.1.2.1.2.1 _ (by omega), ?_⟩⟩
    refine ⟨_, _, _, n_index, ?_, ?_⟩
    · intro hc
      by_cases c2 : 0 ≤ w ∧ w < 4
      · rw [if_pos c2] at hc; exact absurd rfl hc
      · rw [if_neg c2, if_neg c2]; exact KOut.same (by decide) h hT hK
    intro hc
    have c2 : 0 ≤ w ∧ w < 4 := Classical.byContradiction fun z => by rw [if_neg z] at hc; exact absurd hc (by decide)
    rw [if_pos c2]
    have hpn : v.toNat < s.np := by omega
    have hb := hs.2.2.2.1 v.toNat hpn
    have hp := h.2.2.2.1.2.2 v.toNat hpn
    rw [hp.2.2.2.1.1]
    refine ⟨fun hc => ?_, fun hc => ?_⟩
    · have c3 : (s.pb v.toNat).nt < 12 := by omega
      rw [if_pos c3]
      obtain ⟨I8, u1, u2, u3⟩ := h_findsAnswer (K := K) h.2.1 hb.2.2.1 hs.2.1 hp.2.2.1 h.2.2.1.2 (by decide) (by decide)
      have h8 : HR tg K P I8 x s := h.fr (u3.mono fun u => tgM_scr)
      have M8 : ∀ (m : Nat) (s2 : Hl), MH tg P I m s2 → s2.ok → MH tg P I8 m s2 := fun m s2 hm hs2 => hm.h hs2 (u3.mono (fun u (q : u.1 = 3) => by show u.1 ≤ 10; rw [q]; decide))
      refine ⟨_, _, u1, fun hc2 => ?_, fun hc2 => ?_⟩
      · have c4 : ¬ (runA (s.pb v.toNat).sol s.din 500).e = 0 := fun z => by rw [if_pos z] at hc2; exact absurd hc2 (by decide)
        rw [if_neg c4]
        exact ⟨⟨rfl, fun z => absurd z (by decide)⟩, tg, h8, hT, hK, M8⟩
      · have c4 : (runA (s.pb v.toNat).sol s.din 500).e = 0 := Classical.byContradiction fun z => by rw [if_neg z] at hc2; exact absurd rfl hc2
        rw [if_pos c4]
        refine mk_trial2 (i := v.toNat) (j := (s.pb v.toNat).nt) h8 hs hT hK u2 (runA_ou hb.2.2.1 hs.2.1 500).1 (fun q L2 tg2 K2 P2 I2 b1 b2 b3 b4 => ?_)
        have h2 := h8.gw hs b1 hT hK (fun _ _ => id)
        have px := (b1.at hT h.1.1 (show 0 < 20 by decide) id).1
        have el2 : elt P2 (P2 x 3) v.toNat = elt P (P x 3) v.toNat := (h8.2.2.2.1.gw h8.1.1 b1 hT hK (fun _ _ => id) id id (fun _ _ => id) (fun _ _ => id)).2 _ hpn
        have el3 : P (P (P x 3) 1) v.toNat = elt P2 (P2 x 3) v.toNat := el2.symm
        rw [el3]
        refine h_addTrial h2 hs b1.2.1 b1.2.2 hpn c3 b3 b4 (fun L4 tg4 K4 P4 I4 g4 h4 e4 e5 => ?_)
        have t4 := h4.2.2.1.2
        have h5 := h4.din (I' := up I4 (P4 x 1) 1 0) (r := (0, s.din.2)) ⟨t4.1, by rw [up_s]; rfl, fun j hj => absurd hj (Nat.not_lt_zero _)⟩ (FrT.up ⟨0, t4.1.1⟩)
        have r5 := h5.2.2.2.1.2.2 v.toNat hpn
        have l5 : up I4 (P4 x 1) 1 0 (P4 (elt P2 (P2 x 3) v.toNat) 3) 2 = (((s.pb v.toNat).nt + 1 : Nat) : Int) := by
          have := r5.2.2.2.1.1
          rw [e5] at this
          have e9 : ((s.sP1 v.toNat (addTr (s.pb v.toNat) s.din w)).sDin (0, s.din.2)).pb v.toNat = addTr (s.pb v.toNat) s.din w := by
            show updf s.pb v.toNat _ v.toNat = _
            unfold updf
            rw [if_pos rfl]
          rw [e9] at this
          exact this
        refine ⟨⟨rfl, fun _ => ?_⟩, tg4, h5, g4.2.1, g4.2.2, fun m s2 hm hs2 => ?_⟩
        · rw [l5, wr_id (by omega) (by omega)]
          show _ = ((s.pb v.toNat).nt : Int)
          omega
        · have m2 := (M8 m s2 hm hs2).gw hs2 b1 hT (fun _ _ => id)
          have m4 := m2.gw hs2 g4 b1.2.1 (fun u hu z => by have := z.1; omega)
          exact m4.h hs2 (FrT.up (by rw [t4.1.1]; decide))
    · have c3 : ¬ (s.pb v.toNat).nt < 12 := by omega
      rw [if_neg c3]
      exact KOut.same (by decide) h hT hK
  · rw [if_neg c1]
    exact ⟨_, 0, _, (h_pAt h).trans (by rw [if_neg c1]), fun _ => KOut.same (by decide) h hT hK, fun hc => absurd hc (by decide)⟩
-- the model
theorem MH.din0 (h : MH tg P I m s) (hs : s.ok) : MH tg P (up I (P m 4) 72 0) m (s.sDin (0, s.din.2)) := h.din hs ⟨by rw [up_s]; rfl, fun j hj => absurd hj (Nat.not_lt_zero _)⟩ (FrW.u1 h.1.xd (by decide) (Or.inl ⟨rfl, rfl⟩)) (fun j _ => by rw [up_b (Ne.symm (h.1.xd.1 4 (by decide)))])
end TE1
