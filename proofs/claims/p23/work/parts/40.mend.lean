/-! MEND -/
def Pb.sSol (b : Pb) (g : Pg) : Pb := mkPb b.lim b.chk b.ver g b.nt b.tr b.pts
def Pb.sCV (b : Pb) (c v : Int) : Pb := mkPb b.lim c v b.sol b.nt b.tr b.pts
abbrev ansAll (b : Pb) (g : Pg) (k : Nat) : Prop := ∀ j, j < b.nt → k ≤ j → (runA g (b.tr j).1 500).e = 0
def cvS (s : Hl) (p : Nat) (c : Int) : Out := (0, wr ((s.pb p).ver + 1), s.sP1 p ((s.pb p).sCV c (wr ((s.pb p).ver + 1))))
def newSol (s : Hl) (p : Nat) : Hl := (s.sP1 p ((s.pb p).sSol s.desk)).sDesk (0, s.desk.2)
def mendS (s : Hl) (p c : Int) : Out := if 0 ≤ p ∧ p < (s.np : Int) then (if 0 ≤ c ∧ c ≤ 1 then (if s.desk.n = 0 then cvS s p.toNat c else if ansAll (s.pb p.toNat) s.desk 0 then cvS (newSol s p.toNat) p.toNat c else (2, 0, s)) else (1, 0, s)) else (3, 0, s)
theorem cvS_ok {s : Hl} (h : s.ok) {p : Nat} {c : Int} (hp : p < s.np) (hc : 0 ≤ c ∧ c ≤ 1) : (cvS s p c).2.2.ok := by
  obtain ⟨h1, h2, h3⟩ := h.2.2.2.1 p hp
  exact Hl.p1_ok h ⟨h1, by show c = 0 ∨ c = 1; omega, h3⟩
theorem newSol_ok {s : Hl} (h : s.ok) {p : Nat} (hp : p < s.np) (ha : ansAll (s.pb p) s.desk 0) : (newSol s p).ok := by
  obtain ⟨h1, h2, h3, h4, h5, h6⟩ := h.2.2.2.1 p hp
  have hb : ((s.pb p).sSol s.desk).ok := ⟨h1, h2, h.1, h4, fun j hj => ⟨(h5 j hj).1, (h5 j hj).2.1, ha j hj (Nat.zero_le _)⟩, h6⟩
  exact ⟨⟨Nat.zero_le _, fun j hj => absurd hj (Nat.not_lt_zero _)⟩, (Hl.p1_ok h hb).2⟩
theorem mendS_ok {s : Hl} (h : s.ok) {p c : Int} : (mendS s p c).2.2.ok := by
  unfold mendS
  by_cases c1 : 0 ≤ p ∧ p < (s.np : Int)
  · rw [if_pos c1]
    by_cases c2 : 0 ≤ c ∧ c ≤ 1
    · rw [if_pos c2]
      by_cases c3 : s.desk.n = 0
      · rw [if_pos c3]; exact cvS_ok h (by omega) c2
      · rw [if_neg c3]
        by_cases c4 : ansAll (s.pb p.toNat) s.desk 0
        · rw [if_pos c4]; exact cvS_ok (newSol_ok h (by omega) c4) (by show p.toNat < s.np; omega) c2
        · rw [if_neg c4]; exact h
    · rw [if_neg c2]; exact h
  · rw [if_neg c1]; exact h
section ME1
variable {tg : Tg} {K : KT} {P : PT} {I : IT} {x m a b t i c t2 i2 c2 p : Nat} {s : Hl} {ks : List Nat}
theorem r_copy {r : Rw} (hb : RowI P I b r) (hr : r.1 ≤ 8) (n1 : b ≠ P a 0) (n2 : a ≠ P a 0) : ∃ I', f_X4_copyFrom K P I a b = some I' ∧ RowI P I' a r ∧ ∀ q, q ≠ a → q ≠ P a 0 → I' q = I q := by
  unfold f_X4_copyFrom
  rw [bnd_e, bnd_e]
  have e1 : ∀ q, q ≠ P a 0 → cpy I (P b 0) (P a 0) (0 : Int).toNat (0 : Int).toNat (8 : Int).toNat q = I q := fun q hq => by
    funext j
    unfold cpy
    rw [if_neg (fun z => hq z.1)]
  refine ⟨_, rfl, ⟨?_, fun j hj => ?_⟩, fun q h1 h2 => ?_⟩
  · rw [up_s, e1 b n1]; exact hb.1
  · rw [up_b (Ne.symm n2)]
    unfold cpy
    rw [if_pos ⟨rfl, by rw [t0n]; omega, by show j < (0 : Int).toNat + (8 : Int).toNat; have : (0 : Int).toNat = 0 := rfl; have : (8 : Int).toNat = 8 := rfl; omega⟩]
    have := hb.2 j hj
    rw [show (0 : Int).toNat + (j - (0 : Int).toNat) = j by rw [t0n]; omega]
    exact this
  · rw [up_b h1, e1 q h2]
theorem p_take {g : Pg} (ha : tg a = (t, i, c) ∧ tg (P a 0) = (t, i, c + 1) ∧ tg (P a 1) = (t, i, c + 2)) (hb : PgR tg P I b t2 i2 c2 g) (hg : g.n ≤ 16) (hne : t ≠ t2) : ∃ I', f_X3_takeFrom K P I a b = some I' ∧ PgR tg P I' a t i c g ∧ PgR tg P I' b t2 i2 c2 (0, g.2) ∧ FrT tg (fun u => (u = (t, i, c) ∨ u = (t, i, c + 1) ∨ u = (t, i, c + 2)) ∨ u = (t2, i2, c2)) I I' := by
  obtain ⟨a1, a2, a3⟩ := ha
  obtain ⟨⟨b1, b2, b3⟩, b4, b5⟩ := hb
  have d1 : P a 0 ≠ a := tg_ne a2 a1 (by simp)
  have d2 : P a 1 ≠ a := tg_ne a3 a1 (by simp)
  have d3 : P a 1 ≠ P a 0 := tg_ne a3 a2 (by simp)
  have d4 : b ≠ a := tg_ne b1 a1 (by simp [Ne.symm hne])
  have d5 : b ≠ P a 0 := tg_ne b1 a2 (by simp [Ne.symm hne])
  have d6 : b ≠ P a 1 := tg_ne b1 a3 (by simp [Ne.symm hne])
  have d7 : P b 1 ≠ P a 0 := tg_ne b3 a2 (by simp [Ne.symm hne])
  have ec : ∀ (I : IT) (u v : Nat) q, q ≠ v → cpy I u v (0 : Int).toNat (0 : Int).toNat (16 : Int).toNat q = I q := fun I u v q hq => by
    funext j
    unfold cpy
    rw [if_neg (fun z => hq z.1)]
  have es : ∀ (I : IT) (u v : Nat) j, j < 16 → cpy I u v (0 : Int).toNat (0 : Int).toNat (16 : Int).toNat v j = I u j := fun I u v j hj => by
    unfold cpy
    rw [if_pos ⟨rfl, by rw [t0n]; omega, by show j < (0 : Int).toNat + (16 : Int).toNat; have : (0 : Int).toNat = 0 := rfl; have : (16 : Int).toNat = 16 := rfl; omega⟩, show (0 : Int).toNat + (j - (0 : Int).toNat) = j by rw [t0n]; omega]
  have hg : g.1 ≤ 16 := hg
  unfold f_X3_takeFrom
  rw [bnd_e, bnd_e, bnd_e, bnd_e]
  refine ⟨_, rfl, ⟨⟨a1, a2, a3⟩, ?_, fun j hj => ⟨?_, ?_⟩⟩, ⟨⟨b1, b2, b3⟩, ?_, fun j hj => absurd hj (Nat.not_lt_zero _)⟩, ?_⟩
  · rw [up_b (Ne.symm d4), up_s, ec _ _ _ _ d6, ec _ _ _ _ d5]; exact b4
  · rw [up_b (Ne.symm d5), up_b d1, ec _ _ _ _ (Ne.symm d3), es _ _ _ _ (by omega)]; exact (b5 j hj).1
  · rw [up_b (Ne.symm d6), up_b d2, es _ _ _ _ (by omega), ec _ _ _ _ d7]; exact (b5 j hj).2
  · rw [up_s]; rfl
  · intro q hq
    have h1 : q ≠ a := fun z => hq (Or.inl (Or.inl (by rw [z]; exact a1)))
    have h2 : q ≠ P a 0 := fun z => hq (Or.inl (Or.inr (Or.inl (by rw [z]; exact a2))))
    have h3 : q ≠ P a 1 := fun z => hq (Or.inl (Or.inr (Or.inr (by rw [z]; exact a3))))
    have h4 : q ≠ b := fun z => hq (Or.inr (by rw [z]; exact b1))
    rw [up_b h4, up_b h1, ec _ _ _ _ h3, ec _ _ _ _ h2]
/-- is there an answer? -/
theorem h_findsAnswer {g : Pg} {r : Rw} (hs : HRs tg P x) (hg : g.ok) (hr : r.ok) (h1 : PgR tg P I a t i c g) (h2 : RwR tg P I b t2 i2 c2 r) (ht : t ≠ 3) (ht2 : t2 ≠ 3) : ∃ I', f_X7_findsAnswer K P I x a b = some ((if (runA g r 500).e = 0 then 1 else 0), I') ∧ RowI P I' (P (P x 2) 1) (runA g r 500).o ∧ FrT tg tgM I I' := by
  obtain ⟨I', u1, u2, -, u4⟩ := h_exec (K := K) hs hg hr 500 (by decide) h1 h2 ht ht2
  unfold f_X7_findsAnswer
  rw [show (500 : Int) = ((500 : Nat) : Int) from rfl, u1, bi_s]
  refine ⟨I', ?_, u2, u4⟩
  by_cases q : (runA g r 500).e = 0
  · rw [if_pos q, if_pos q]
  · rw [if_neg q, if_neg q]
theorem h_all_l {b : Pb} {g : Pg} {pg : Nat} (hs : HRs tg P x) (hb : b.ok) (hg : g.ok) : ∀ (d fuel k : Nat) (I : IT), d < fuel → k + d = b.nt → PbR tg K P I i p b → PgR tg P I pg 1 0 0 g → ∃ I', f_X7_findsAllAnswers_2 K P fuel I x p pg (k : Int) = some ((if ansAll b g k then 1 else 0), I') ∧ FrT tg tgM I I' := by
  intro d
  induction d with
  | zero =>
    intro fuel k I hf hk h1 h2
    obtain ⟨n, rfl⟩ : ∃ n, fuel = n + 1 := ⟨fuel - 1, by omega⟩
    unfold f_X7_findsAllAnswers_2
    rw [h1.2.2.2.1.1, if_pos (by omega), if_pos (show ansAll b g k from fun j g1 g2 => by omega)]
    exact ⟨I, rfl, FrT.rf⟩
  | succ d ih =>
    intro fuel k I hf hk h1 h2
    obtain ⟨n, rfl⟩ : ∃ n, fuel = n + 1 := ⟨fuel - 1, by omega⟩
    have hnt := hb.2.2.2.1
    have hj := h1.2.2.2.2.1 k (by omega)
    obtain ⟨I1, u1, -, u3⟩ := h_findsAnswer (K := K) hs hg (hb.2.2.2.2.1 k (by omega)).1 h2 hj.2.1 (by decide) (by decide)
    have eg := h1.2.2.2.1.get (t := 7) (by decide) (x := (k : Int)) (by omega)
    rw [Int.toNat_natCast] at eg
    unfold f_X7_findsAllAnswers_2
    rw [h1.2.2.2.1.1, if_neg (by omega), eg, bp_s, u1, bi_s, show wr ((k : Int) + 1) = ((k + 1 : Nat) : Int) by rw [wr_id (by omega) (by omega)]; rfl]
    by_cases q : (runA g (b.tr k).1 500).e = 0
    · rw [if_pos q, if_neg (by decide)]
      obtain ⟨I', k1, k2⟩ := ih n (k + 1) I1 (by omega) (by omega) (h1.fr u3 (fun _ => show ¬ 4 = 3 by decide) (fun _ => show ¬ 5 = 3 by decide)) ⟨h2.1, h2.2.fr (u3.at h2.1.1 (show ¬ 1 = 3 by decide)) (u3.at h2.1.2.1 (show ¬ 1 = 3 by decide)) (u3.at h2.1.2.2 (show ¬ 1 = 3 by decide))⟩
      refine ⟨I', ?_, u3.tr k2⟩
      rw [k1]
      congr 2
      by_cases z : ansAll b g (k + 1)
      · rw [if_pos z, if_pos (show ansAll b g k from fun j g1 g2 => by
          by_cases e : j = k
          · rw [e]; exact q
          · exact z j g1 (by omega))]
      · rw [if_neg z, if_neg (fun y : ansAll b g k => z (fun j g1 g2 => y j g1 (by omega)))]
    · rw [if_neg q, if_pos rfl, if_neg (fun y : ansAll b g k => q (y k (by omega) (Nat.le_refl _)))]
      exact ⟨I1, rfl, u3⟩
theorem h_renew_l {b : Pb} {f : Nat → Rw} (hs : HRs tg P x) (hb : b.ok) : ∀ (d fuel k : Nat) (I : IT), d < fuel → k + d = b.nt → PgR tg P I (P p 2) 4 i 1 b.sol → LR K P I (P p 3) 7 b.nt → tg (P p 3) = (4, i, 4) → (∀ j, j < b.nt → TrR tg P I i j (elt P (P p 3) j) (b.tr j).1 (if j < k then b.ans j else f j) (b.tr j).2) → ∃ I', f_X7_renewAnswers_2 K P fuel I x p (k : Int) = some I' ∧ (∀ j, j < b.nt → TrR tg P I' i j (elt P (P p 3) j) (b.tr j).1 (b.ans j) (b.tr j).2) ∧ FrT tg (fun u => u.1 = 3 ∨ u.1 = 5 ∧ u.2.1 = i) I I' := by
  intro d
  induction d with
  | zero =>
    intro fuel k I hf hk h1 h2 h3 h4
    obtain ⟨n, rfl⟩ : ∃ n, fuel = n + 1 := ⟨fuel - 1, by omega⟩
    unfold f_X7_renewAnswers_2
    rw [h2.1, if_pos (by omega)]
    exact ⟨I, rfl, fun j hj => by have := h4 j hj; rw [if_pos (by omega)] at this; exact this, FrT.rf⟩
  | succ d ih =>
    intro fuel k I hf hk h1 h2 h3 h4
    obtain ⟨n, rfl⟩ : ∃ n, fuel = n + 1 := ⟨fuel - 1, by omega⟩
    have hnt := hb.2.2.2.1
    have hj := h4 k (by omega)
    have hbj := hb.2.2.2.2.1 k (by omega)
    obtain ⟨I1, u1, u2, u3⟩ := h_findsAnswer (K := K) hs hb.2.2.1 hbj.1 h1 hj.2.1 (by decide) (by decide)
    have eg := h2.get (t := 7) (by decide) (x := (k : Int)) (by omega)
    rw [Int.toNat_natCast] at eg
    obtain ⟨ht0, ht1, ht2, ht3⟩ := hj
    have to : tg (P (P x 2) 1) = (3, 0, 3) := hs.1.2.2.2.1
    obtain ⟨I2, v1, v2, v3⟩ := r_copy (K := K) (a := P (elt P (P p 3) k) 1) u2 (runA_ou hb.2.2.1 hbj.1 500).1 (tg_ne to ht2.1.2 (by simp)) (tg_ne ht2.1.1 ht2.1.2 (by simp))
    have f2 : FrT tg (fun u => u = (5, i, 8 * k + 3) ∨ u = (5, i, 8 * k + 4)) I1 I2 := fun q hq => v3 q (fun z => hq (Or.inl (by rw [z]; exact ht2.1.1))) (fun z => hq (Or.inr (by rw [z]; exact ht2.1.2)))
    have f12 : FrT tg (fun u => u.1 = 3 ∨ (u = (5, i, 8 * k + 3) ∨ u = (5, i, 8 * k + 4))) I I2 := (u3.mono (fun _ q => Or.inl q)).tr (f2.mono (fun _ q => Or.inr q))
    have p1 : PgR tg P I2 (P p 2) 4 i 1 b.sol := h1.fr f12 (fun q => by simp)
    have l2 : LR K P I2 (P p 3) 7 b.nt := h2.fr (f12.at h3 (by simp))
    have tr2 : ∀ j, j < b.nt → TrR tg P I2 i j (elt P (P p 3) j) (b.tr j).1 (if j < k + 1 then b.ans j else f j) (b.tr j).2 := by
      intro j hj
      by_cases z : j = k
      · subst z
        rw [if_pos (by omega)]
        have gr : ∀ q : Nat, q < 3 → ¬ (((5, i, 8 * j + q) : Nat × Nat × Nat).1 = 3 ∨ (((5, i, 8 * j + q) : Nat × Nat × Nat) = (5, i, 8 * j + 3) ∨ ((5, i, 8 * j + q) : Nat × Nat × Nat) = (5, i, 8 * j + 4))) := by
          intro q hq z
          simp only [Prod.mk.injEq] at z
          omega
        refine ⟨ht0, ⟨ht1.1, ht1.2.fr (f12.at ht1.1.1 (gr 1 (by decide))) (f12.at ht1.1.2 (gr 2 (by decide)))⟩, ⟨ht2.1, v2⟩, ?_⟩
        rw [f12.at ht0 (gr 0 (by decide))]; exact ht3
      · obtain ⟨y0, y1, y2, y3⟩ := h4 j hj
        have gr : ∀ q : Nat, q < 8 → ¬ (((5, i, 8 * j + q) : Nat × Nat × Nat).1 = 3 ∨ (((5, i, 8 * j + q) : Nat × Nat × Nat) = (5, i, 8 * k + 3) ∨ ((5, i, 8 * j + q) : Nat × Nat × Nat) = (5, i, 8 * k + 4))) := by
          intro q hq z
          simp only [Prod.mk.injEq] at z
          omega
        refine ⟨y0, ⟨y1.1, y1.2.fr (f12.at y1.1.1 (gr 1 (by decide))) (f12.at y1.1.2 (gr 2 (by decide)))⟩, ⟨y2.1, ?_⟩, ?_⟩
        · have := y2.2.fr (f12.at y2.1.1 (gr 3 (by decide))) (f12.at y2.1.2 (gr 4 (by decide)))
          by_cases e : j < k
          · rw [if_pos e] at this; rw [if_pos (by omega)]; exact this
          · rw [if_neg e] at this; rw [if_neg (by omega)]; exact this
        · rw [f12.at y0 (gr 0 (by decide))]; exact y3
    obtain ⟨I', k1, k2, k3⟩ := ih n (k + 1) I2 (by omega) (by omega) p1 l2 h3 tr2
    unfold f_X7_renewAnswers_2
    rw [h2.1, if_neg (by omega), eg, bp_s, u1, bi_s, if_pos hbj.2.2, if_neg (by decide), v1, bp_s]
    unfold f_X7_renewAnswers_54
    rw [show wr ((k : Int) + 1) = ((k + 1 : Nat) : Int) by rw [wr_id (by omega) (by omega)]; rfl]
    refine ⟨I', k1, k2, (f12.mono (fun u q => ?_)).tr k3⟩
    rcases q with q | q | q
    · exact Or.inl q
    · rw [q]; exact Or.inr ⟨rfl, rfl⟩
    · rw [q]; exact Or.inr ⟨rfl, rfl⟩
/-- checker and version of a problem -/
theorem h_cv {cc : Int} (h : HR tg K P I x s) (hp : p < s.np) : HOut tg K P x I (f_X7_mend_60 K P I cc (elt P (P x 3) p)) (cvS s p cc) := by
  obtain ⟨h1, h2, h3, h4, h5, h6⟩ := h.2.2.2.1.2.2 p hp
  have t1 := h1.1
  unfold f_X7_mend_60 cvS
  have e6 : up I (elt P (P x 3) p) 5 cc (elt P (P x 3) p) 6 = (s.pb p).ver := by rw [up_k _ _ _ _ (by decide)]; exact h2.2.2.2
  rw [bnd_e, bnd_e, e6, up_s]
  have f2 : FrT tg (fun u => u = (4, p, 0)) I (up (up I (elt P (P x 3) p) 5 cc) (elt P (P x 3) p) 6 (wr ((s.pb p).ver + 1))) := (FrT.up t1).tr (FrT.up t1)
  have z5 : up (up I (elt P (P x 3) p) 5 cc) (elt P (P x 3) p) 6 (wr ((s.pb p).ver + 1)) (elt P (P x 3) p) 5 = cc := by rw [up_k _ _ _ _ (by decide), up_s]
  have z6 : up (up I (elt P (P x 3) p) 5 cc) (elt P (P x 3) p) 6 (wr ((s.pb p).ver + 1)) (elt P (P x 3) p) 6 = wr ((s.pb p).ver + 1) := up_s _ _ _ _
  have zz : ∀ j, j < 5 → up (up I (elt P (P x 3) p) 5 cc) (elt P (P x 3) p) 6 (wr ((s.pb p).ver + 1)) (elt P (P x 3) p) j = I (elt P (P x 3) p) j := fun j hj => by rw [up_k _ _ _ _ (by omega), up_k _ _ _ _ (by omega)]
  refine ⟨_, _, rfl, fun _ => rfl, ?_, f2.mono (fun u q => by rw [q]; exact (show 4 ≤ 10 by decide))⟩
  generalize up (up I (elt P (P x 3) p) 5 cc) (elt P (P x 3) p) 6 (wr ((s.pb p).ver + 1)) = I2 at f2 z5 z6 zz ⊢
  refine h.p1 ⟨h1, ⟨?_, ?_, z5, z6⟩, ⟨h3.1, h3.2.fr (f2.at h3.1.1 (by simp)) (f2.at h3.1.2.1 (by simp)) (f2.at h3.1.2.2 (by simp))⟩, h4.fr (f2.at h1.2.1 (by simp)), fun j hj => (h5 j hj).fr f2 (fun _ => by simp), fun k hk => ?_⟩ (f2.mono (fun u q => by rw [q]; exact ⟨Or.inl rfl, rfl⟩))
  · rw [zz 0 (by decide)]; exact h2.1
  · rw [zz 1 (by decide)]; exact h2.2.1
  · rw [f2.at h1.2.2.1 (by simp)]; exact h6 k hk
/-- another solution, with its answers -/
theorem h_newSol (h : HR tg K P I x s) (hs : s.ok) (hp : p < s.np) (ha : ansAll (s.pb p) s.desk 0) : ∃ I1 I', f_X3_takeFrom K P I (P (elt P (P x 3) p) 2) (P x 0) = some I1 ∧ f_X7_renewAnswers K P I1 x (elt P (P x 3) p) = some I' ∧ HR tg K P I' x (newSol s p) ∧ FrT tg (fun u => u.1 ≤ 10) I I' := by
  have hb := newSol_ok hs hp ha
  have hb1 : ((s.pb p).sSol s.desk).ok := by
    obtain ⟨h1, h2, h3, h4, h5, h6⟩ := hs.2.2.2.1 p hp
    exact ⟨h1, h2, hs.1, h4, fun j hj => ⟨(h5 j hj).1, (h5 j hj).2.1, ha j hj (Nat.zero_le _)⟩, h6⟩
  obtain ⟨h1, h2, h3, h4, h5, h6⟩ := h.2.2.2.1.2.2 p hp
  have hd := h.2.2.1.1
  obtain ⟨I1, u1, u2, u3, u4⟩ := p_take (K := K) h3.1 hd hs.1.1 (by decide)
  have g4 : ∀ t i c, (t ≠ 4 ∨ i ≠ p ∨ (c ≠ 1 ∧ c ≠ 2 ∧ c ≠ 3)) → t ≠ 1 → ¬ ((((t, i, c) : Nat × Nat × Nat) = (4, p, 1) ∨ ((t, i, c) : Nat × Nat × Nat) = (4, p, 1 + 1) ∨ ((t, i, c) : Nat × Nat × Nat) = (4, p, 1 + 2)) ∨ ((t, i, c) : Nat × Nat × Nat) = (1, 0, 0)) := by
    intro t i c q1 q2 z
    simp only [Prod.mk.injEq] at z
    omega
  obtain ⟨I', v1, v2, v3⟩ := h_renew_l (K := K) (f := (s.pb p).ans) h.2.1 hb1 (s.pb p).nt FU 0 I1 (by have := hb1.2.2.2.1; unfold FU; show (s.pb p).nt < 1000; have : (s.pb p).nt ≤ 12 := this; omega) (by show 0 + (s.pb p).nt = (s.pb p).nt; omega) u2 (h4.fr (u4.at h1.2.1 (g4 _ _ _ (by omega) (by decide)))) h1.2.1 (fun j hj => by
    rw [if_neg (by omega)]
    exact (h5 j hj).fr u4 (fun _ => g4 _ _ _ (by omega) (by decide)))
  refine ⟨I1, I', u1, v1, ?_, ?_⟩
  · have f : FrT tg (fun u => u.1 = 3 ∨ u.1 = 1 ∧ u.2.2 = 0 ∨ (u.1 = 4 ∧ (u.2.2 = 1 ∨ u.2.2 = 2 ∨ u.2.2 = 3) ∨ u.1 = 5) ∧ u.2.1 = p) I I' := by
      refine (u4.mono (fun u q => ?_)).tr (v3.mono (fun u q => ?_))
      · rcases q with (q | q | q) | q
        · rw [q]; exact Or.inr (Or.inr ⟨Or.inl ⟨rfl, Or.inl rfl⟩, rfl⟩)
        · rw [q]; exact Or.inr (Or.inr ⟨Or.inl ⟨rfl, Or.inr (Or.inl rfl)⟩, rfl⟩)
        · rw [q]; exact Or.inr (Or.inr ⟨Or.inl ⟨rfl, Or.inr (Or.inr rfl)⟩, rfl⟩)
        · rw [q]; exact Or.inr (Or.inl ⟨rfl, rfl⟩)
      · rcases q with q | q
        · exact Or.inl q
        · exact Or.inr (Or.inr ⟨Or.inr q.1, q.2⟩)
    have gg : ∀ t i c, t ≠ 3 → (t ≠ 1 ∨ c ≠ 0) → (t ≠ 4 ∨ (c ≠ 1 ∧ c ≠ 2 ∧ c ≠ 3) ∨ i ≠ p) → (t ≠ 5 ∨ i ≠ p) → ¬ (((t, i, c) : Nat × Nat × Nat).1 = 3 ∨ ((t, i, c) : Nat × Nat × Nat).1 = 1 ∧ ((t, i, c) : Nat × Nat × Nat).2.2 = 0 ∨ (((t, i, c) : Nat × Nat × Nat).1 = 4 ∧ (((t, i, c) : Nat × Nat × Nat).2.2 = 1 ∨ ((t, i, c) : Nat × Nat × Nat).2.2 = 2 ∨ ((t, i, c) : Nat × Nat × Nat).2.2 = 3) ∨ ((t, i, c) : Nat × Nat × Nat).1 = 5) ∧ ((t, i, c) : Nat × Nat × Nat).2.1 = p) := by
      intro t i c q1 q2 q3 q4 z
      dsimp only at z
      omega
    have g3 : ∀ t i c, t ≠ 3 → t ≠ 5 → ¬ (((t, i, c) : Nat × Nat × Nat).1 = 3 ∨ ((t, i, c) : Nat × Nat × Nat).1 = 5 ∧ ((t, i, c) : Nat × Nat × Nat).2.1 = p) := by
      intro t i c q1 q2 z
      dsimp only at z
      omega
    obtain ⟨a1, a2, a3, ⟨a4, a5, a6⟩, a7, a8⟩ := h
    refine ⟨a1.fr f (gg _ _ _ (by decide) (by omega) (by omega) (by omega)), a2, ⟨u3.fr v3 (fun _ => g3 _ _ _ (by decide) (by decide)), a3.2.fr f (fun _ => gg _ _ _ (by decide) (by omega) (by omega) (by omega))⟩, ⟨a4, a5.fr (f.at a4.1 (gg _ _ _ (by decide) (by omega) (by omega) (by omega))), fun j hj => ?_⟩, a7.fr f (gg _ _ _ (by decide) (by omega) (by omega) (by omega)) (fun _ _ => gg _ _ _ (by decide) (by omega) (by omega) (by omega)), a8.fr f ⟨gg _ _ _ (by decide) (by omega) (by omega) (by omega), gg _ _ _ (by decide) (by omega) (by omega) (by omega), gg _ _ _ (by decide) (by omega) (by omega) (by omega)⟩⟩
    show PbR tg K P I' j (elt P (P x 3) j) (updf s.pb p ((s.pb p).sSol s.desk) j)
    unfold updf
    by_cases q : j = p
    · rw [if_pos q, q]
      refine ⟨h1, ?_, u2.fr v3 (fun _ => g3 _ _ _ (by decide) (by decide)), h4.fr (f.at h1.2.1 (gg _ _ _ (by decide) (by omega) (by omega) (by omega))), v2, fun k hk => ?_⟩
      · rw [f.at h1.1 (gg _ _ _ (by decide) (by omega) (by omega) (by omega))]; exact h2
      · rw [f.at h1.2.2.1 (gg _ _ _ (by decide) (by omega) (by omega) (by omega))]; exact h6 k hk
    · rw [if_neg q]
      exact (a6 j hj).fr f (fun k => gg _ _ _ (by decide) (by omega) (by omega) (by omega)) (fun k => gg _ _ _ (by decide) (by omega) (by omega) (by omega))
  · refine (u4.mono (fun u q => ?_)).tr (v3.mono (fun u q => ?_))
    · show u.1 ≤ 10
      rcases q with (q | q | q) | q
      · rw [q]; exact (show 4 ≤ 10 by decide)
      · rw [q]; exact (show 4 ≤ 10 by decide)
      · rw [q]; exact (show 4 ≤ 10 by decide)
      · rw [q]; exact (show 1 ≤ 10 by decide)
    · show u.1 ≤ 10
      omega
theorem h_mend {v w : Int} (h : HR tg K P I x s) (hs : s.ok) : HOut tg K P x I (f_X7_mend K P I x v w) (mendS s v w) := by
  unfold f_X7_mend mendS
  rw [h_pAt h]
  by_cases c1 : 0 ≤ v ∧ v < (s.np : Int)
  · rw [if_pos c1, if_pos c1, bx_0, ck_t (h.2.2.2.1.2.1.2.1 _ (by omega)), n_range]
    by_cases c2 : 0 ≤ w ∧ w ≤ 1
    · rw [if_pos c2, if_pos c2, bx_0, show I (P x 0) 2 = (s.desk.n : Int) from h.2.2.1.1.2.1]
      by_cases c3 : s.desk.n = 0
      · rw [if_pos (by omega), if_pos c3]
        exact h_cv h (by omega)
      · rw [if_neg (by omega), if_neg c3]
        have hb := hs.2.2.2.1 v.toNat (by omega)
        obtain ⟨I1, u1, u2⟩ := h_all_l (K := K) h.2.1 hb hs.1 (s.pb v.toNat).nt FU 0 I (by have := hb.2.2.2.1; unfold FU; omega) (by omega) (h.2.2.2.1.2.2 v.toNat (by omega)) h.2.2.1.1
        have u1' : f_X7_findsAllAnswers K P I x (elt P (P x 3) v.toNat) (P x 0) = _ := u1
        rw [u1', bi_s]
        have h1 : HR tg K P I1 x s := h.fr (u2.mono fun u => tgM_scr)
        have f1 : FrT tg (fun u => u.1 ≤ 10) I I1 := u2.mono (fun u (q : u.1 = 3) => by show u.1 ≤ 10; rw [q]; decide)
        by_cases c4 : ansAll (s.pb v.toNat) s.desk 0
        · rw [if_pos c4, if_neg (by decide), if_pos c4]
          obtain ⟨I2, I3, k1, k2, k3, k4⟩ := h_newSol (K := K) h1 hs (p := v.toNat) (by omega) c4
          rw [k1, bp_s, k2, bp_s]
          obtain ⟨r, I', j1, j2, j3, j4⟩ := h_cv (K := K) (cc := w) (p := v.toNat) k3 (by show v.toNat < s.np; omega)
          exact ⟨r, I', j1, j2, j3, f1.tr (k4.tr j4)⟩
        · rw [if_neg c4, if_pos rfl, if_neg c4]
          exact ⟨0, I1, rfl, fun z => absurd z (show ¬ 2 = 0 by decide), h1, f1⟩
    · rw [if_neg c2, if_neg c2, bx_s (by decide)]
      exact HOut.same (by decide) h rfl
  · rw [if_neg c1, if_neg c1, bx_s (by decide)]
    exact HOut.same (by decide) h rfl
end ME1
