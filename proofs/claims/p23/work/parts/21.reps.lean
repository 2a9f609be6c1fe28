/-! WHAT A HALL HOLDS, by itself; and how the class's cells, and the model's, hold it. Each cell has a tag: cells of different tags are different cells. -/
abbrev Tg : Type := Nat → Nat × Nat × Nat
/-- only cells whose tag is one of these are written -/
def FrT (tg : Tg) (Q : Nat × Nat × Nat → Prop) (I I' : IT) : Prop := ∀ b, ¬ Q (tg b) → I' b = I b
theorem FrT.rf {tg : Tg} {Q : Nat × Nat × Nat → Prop} {I : IT} : FrT tg Q I I := fun _ _ => rfl
theorem FrT.tr {tg : Tg} {Q : Nat × Nat × Nat → Prop} {I I1 I2 : IT} (h : FrT tg Q I I1) (h2 : FrT tg Q I1 I2) : FrT tg Q I I2 := fun b hb => (h2 b hb).trans (h b hb)
theorem FrT.mono {tg : Tg} {Q Q2 : Nat × Nat × Nat → Prop} {I I1 : IT} (h : FrT tg Q I I1) (hq : ∀ u, Q u → Q2 u) : FrT tg Q2 I I1 := fun b hb => h b (fun e => hb (hq _ e))
theorem FrT.up {tg : Tg} {Q : Nat × Nat × Nat → Prop} {I : IT} {a k : Nat} {v : Int} (h : Q (tg a)) : FrT tg Q I (up I a k v) := fun b hb => up_b (fun e => hb (by rw [e]; exact h))
theorem FrT.at {tg : Tg} {Q : Nat × Nat × Nat → Prop} {I I' : IT} (h : FrT tg Q I I') {a : Nat} {u : Nat × Nat × Nat} (ha : tg a = u) (hu : ¬ Q u) : I' a = I a := h a (by rw [ha]; exact hu)
theorem tg_ne {tg : Tg} {a b : Nat} {u v : Nat × Nat × Nat} (ha : tg a = u) (hb : tg b = v) (h : u ≠ v) : a ≠ b := fun e => h (by rw [← ha, ← hb, e])
abbrev Tr : Type := Rw × Int
abbrev Pb : Type := Nat × Int × Int × Pg × Nat × (Nat → Tr) × (Nat → Int)
def Pb.lim (b : Pb) : Nat := b.1
def Pb.chk (b : Pb) : Int := b.2.1
def Pb.ver (b : Pb) : Int := b.2.2.1
def Pb.sol (b : Pb) : Pg := b.2.2.2.1
def Pb.nt (b : Pb) : Nat := b.2.2.2.2.1
def Pb.tr (b : Pb) : Nat → Tr := b.2.2.2.2.2.1
def Pb.pts (b : Pb) : Nat → Int := b.2.2.2.2.2.2
def mkPb (lim : Nat) (chk ver : Int) (sol : Pg) (nt : Nat) (tr : Nat → Tr) (pts : Nat → Int) : Pb := (lim, chk, ver, sol, nt, tr, pts)
/-- the answer of a test: the output of the solution's run with its input -/
def Pb.ans (b : Pb) (j : Nat) : Rw := (runA b.sol (b.tr j).1 500).o
abbrev En : Type := Nat × Nat × Int × Pg × Int × Int × Int × Int
def En.team (n : En) : Nat := n.1
def En.prob (n : En) : Nat := n.2.1
def En.whn (n : En) : Int := n.2.2.1
def En.prg (n : En) : Pg := n.2.2.2.1
def En.vd (n : En) : Int := n.2.2.2.2.1
def En.fl (n : En) : Int := n.2.2.2.2.2.1
def En.sc (n : En) : Int := n.2.2.2.2.2.2.1
def En.jb (n : En) : Int := n.2.2.2.2.2.2.2
def mkEn (team prob : Nat) (whn : Int) (prg : Pg) (vd fl sc jb : Int) : En := (team, prob, whn, prg, vd, fl, sc, jb)
abbrev Hl : Type := Pg × Rw × Nat × (Nat → Pb) × Nat × (Nat → En) × Int × Int × (Nat → Int) × (Nat → Int) × (Nat → Int)
def Hl.desk (s : Hl) : Pg := s.1
def Hl.din (s : Hl) : Rw := s.2.1
def Hl.np (s : Hl) : Nat := s.2.2.1
def Hl.pb (s : Hl) : Nat → Pb := s.2.2.2.1
def Hl.ne (s : Hl) : Nat := s.2.2.2.2.1
def Hl.en (s : Hl) : Nat → En := s.2.2.2.2.2.1
def Hl.min (s : Hl) : Int := s.2.2.2.2.2.2.1
def Hl.frz (s : Hl) : Int := s.2.2.2.2.2.2.2.1
def Hl.rev (s : Hl) : Nat → Int := s.2.2.2.2.2.2.2.2.1
def Hl.jud (s : Hl) : Nat → Int := s.2.2.2.2.2.2.2.2.2.1
def Hl.hck (s : Hl) : Nat → Int := s.2.2.2.2.2.2.2.2.2.2
def mkHl (desk : Pg) (din : Rw) (np : Nat) (pb : Nat → Pb) (ne : Nat) (en : Nat → En) (min frz : Int) (rev jud hck : Nat → Int) : Hl := (desk, din, np, pb, ne, en, min, frz, rev, jud, hck)
def Hl.sDesk (s : Hl) (g : Pg) : Hl := mkHl g s.din s.np s.pb s.ne s.en s.min s.frz s.rev s.jud s.hck
def Hl.sDin (s : Hl) (r : Rw) : Hl := mkHl s.desk r s.np s.pb s.ne s.en s.min s.frz s.rev s.jud s.hck
def Hl.sPb (s : Hl) (np : Nat) (pb : Nat → Pb) : Hl := mkHl s.desk s.din np pb s.ne s.en s.min s.frz s.rev s.jud s.hck
def Hl.sEn (s : Hl) (ne : Nat) (en : Nat → En) : Hl := mkHl s.desk s.din s.np s.pb ne en s.min s.frz s.rev s.jud s.hck
def Hl.sMin (s : Hl) (v : Int) : Hl := mkHl s.desk s.din s.np s.pb s.ne s.en v s.frz s.rev s.jud s.hck
def Hl.sFrz (s : Hl) (v : Int) (rev : Nat → Int) : Hl := mkHl s.desk s.din s.np s.pb s.ne s.en s.min v rev s.jud s.hck
def Hl.sJud (s : Hl) (f : Nat → Int) : Hl := mkHl s.desk s.din s.np s.pb s.ne s.en s.min s.frz s.rev f s.hck
def Hl.sHck (s : Hl) (f : Nat → Int) : Hl := mkHl s.desk s.din s.np s.pb s.ne s.en s.min s.frz s.rev s.jud f
/-- what is so of every hall -/
def Pb.ok (b : Pb) : Prop := (1 ≤ b.lim ∧ b.lim ≤ 500) ∧ (b.chk = 0 ∨ b.chk = 1) ∧ b.sol.ok ∧ b.nt ≤ 12 ∧ (∀ j, j < b.nt → (b.tr j).1.ok ∧ (0 ≤ (b.tr j).2 ∧ (b.tr j).2 ≤ 3) ∧ (runA b.sol (b.tr j).1 500).e = 0) ∧ ∀ k, k < 4 → 0 ≤ b.pts k ∧ b.pts k ≤ 100
def En.ok (np : Nat) (n : En) : Prop := n.team < 8 ∧ n.prob < np ∧ (0 ≤ n.whn ∧ n.whn ≤ 9999) ∧ n.prg.ok ∧ (-1 ≤ n.vd ∧ n.vd ≤ 5) ∧ (n.vd = -1 → n.fl = -1 ∧ n.sc = 0 ∧ n.jb = -1)
def Hl.ok (s : Hl) : Prop := s.desk.ok ∧ s.din.ok ∧ s.np ≤ 6 ∧ (∀ i, i < s.np → (s.pb i).ok) ∧ s.ne ≤ 60 ∧ (∀ e, e < s.ne → (s.en e).ok s.np) ∧ (0 ≤ s.min ∧ s.min ≤ 9999) ∧ (-1 ≤ s.frz ∧ s.frz ≤ 9999) ∧ (∀ k, k < 48 → s.rev k = 0 ∨ s.rev k = 1)
-- the class's cells
def PgR (tg : Tg) (P : PT) (I : IT) (a t i c : Nat) (g : Pg) : Prop := (tg a = (t, i, c) ∧ tg (P a 0) = (t, i, c + 1) ∧ tg (P a 1) = (t, i, c + 2)) ∧ PgI P I a g
def RwR (tg : Tg) (P : PT) (I : IT) (a t i c : Nat) (r : Rw) : Prop := (tg a = (t, i, c) ∧ tg (P a 0) = (t, i, c + 1)) ∧ RowI P I a r
def TrR (tg : Tg) (P : PT) (I : IT) (i j t : Nat) (inp ans : Rw) (grp : Int) : Prop := tg t = (5, i, 8 * j) ∧ RwR tg P I (P t 0) 5 i (8 * j + 1) inp ∧ RwR tg P I (P t 1) 5 i (8 * j + 3) ans ∧ I t 2 = grp
/-- a list l of n things of the code t -/
def LR (K : KT) (P : PT) (I : IT) (l t n : Nat) : Prop := I l 2 = (n : Int) ∧ (∀ i, i < n → K (P (P l 1) i) = t) ∧ ((P l 1 = 1 ∧ n = 0) ∨ ∃ n0 : Nat, K (P l 1) = 102 + 4 * n0 ∧ 2 ≤ n0 ∧ n0 ≤ 100 ∧ n ≤ n0)
abbrev elt (P : PT) (l i : Nat) : Nat := P (P l 1) i
theorem LR.fr {K : KT} {P : PT} {I I' : IT} {l t n : Nat} (h : LR K P I l t n) (hf : I' l = I l) : LR K P I' l t n := ⟨by rw [hf]; exact h.1, h.2⟩
theorem LR.get {K : KT} {P : PT} {I : IT} {l t n : Nat} (h : LR K P I l t n) (ht : t ≠ 0) {x : Int} (hx : 0 ≤ x ∧ x < (n : Int)) : lgetf K P I l x t = some (elt P l x.toNat) := by
  obtain ⟨h1, h2, h3⟩ := h
  unfold lgetf
  rcases h3 with ⟨-, rfl⟩ | ⟨n0, k1, k2, k3, k4⟩
  · exact absurd hx (by omega)
  · exact ck_t ⟨hx.1, by omega, by omega, by omega, by omega, h2 _ (by omega), ht⟩
def PbR (tg : Tg) (K : KT) (P : PT) (I : IT) (i p : Nat) (b : Pb) : Prop :=
  (tg p = (4, i, 0) ∧ tg (P p 3) = (4, i, 4) ∧ tg (P p 4) = (4, i, 5) ∧ (P (P p 3) 1 ≠ 1 → tg (P (P p 3) 1) = (4, i, 6))) ∧
  (I p 0 = (i : Int) ∧ I p 1 = (b.lim : Int) ∧ I p 5 = b.chk ∧ I p 6 = b.ver) ∧ PgR tg P I (P p 2) 4 i 1 b.sol ∧ LR K P I (P p 3) 7 b.nt ∧
  (∀ j, j < b.nt → TrR tg P I i j (elt P (P p 3) j) (b.tr j).1 (b.ans j) (b.tr j).2) ∧ ∀ k, k < 4 → I (P p 4) k = b.pts k
def EnR (tg : Tg) (P : PT) (I : IT) (pl e a : Nat) (n : En) : Prop :=
  tg a = (6, e, 0) ∧ PgR tg P I (P a 3) 6 e 1 n.prg ∧ P a 1 = elt P pl n.prob ∧ (I a 0 = (n.team : Int) ∧ I a 2 = n.whn ∧ I a 4 = n.vd ∧ I a 5 = n.fl ∧ I a 6 = n.sc ∧ I a 7 = n.jb)
def HRx (tg : Tg) (K : KT) (I : IT) (x : Nat) (min frz : Int) : Prop := tg x = (0, 0, 0) ∧ K x = 8 ∧ I x 10 = min ∧ I x 11 = frz
def HRs (tg : Tg) (P : PT) (x : Nat) : Prop := (tg (P x 2) = (3, 0, 0) ∧ tg (P (P x 2) 0) = (3, 0, 1) ∧ tg (P (P (P x 2) 0) 0) = (3, 0, 2) ∧ tg (P (P x 2) 1) = (3, 0, 3) ∧ tg (P (P (P x 2) 1) 0) = (3, 0, 4)) ∧ (tg (P x 5) = (7, 0, 0) ∧ ∀ k, k < 5 → tg (P (P x 5) k) = (7, 0, k + 1)) ∧ tg (P x 9) = (8, 0, 9)
def HRd (tg : Tg) (P : PT) (I : IT) (x : Nat) (g : Pg) (r : Rw) : Prop := PgR tg P I (P x 0) 1 0 0 g ∧ RwR tg P I (P x 1) 2 0 0 r
def HRp (tg : Tg) (K : KT) (P : PT) (I : IT) (x np : Nat) (pb : Nat → Pb) : Prop := (tg (P x 3) = (9, 0, 3) ∧ (P (P x 3) 1 ≠ 1 → tg (P (P x 3) 1) = (9, 0, 13))) ∧ LR K P I (P x 3) 3 np ∧ ∀ i, i < np → PbR tg K P I i (elt P (P x 3) i) (pb i)
def HRe (tg : Tg) (K : KT) (P : PT) (I : IT) (x ne : Nat) (en : Nat → En) : Prop := (tg (P x 4) = (9, 0, 4) ∧ (P (P x 4) 1 ≠ 1 → tg (P (P x 4) 1) = (9, 0, 14))) ∧ LR K P I (P x 4) 1 ne ∧ ∀ e, e < ne → EnR tg P I (P x 3) e (elt P (P x 4) e) (en e)
def HRa (tg : Tg) (P : PT) (I : IT) (x : Nat) (rev jud hck : Nat → Int) : Prop := (tg (P x 6) = (8, 0, 6) ∧ tg (P x 7) = (8, 0, 7) ∧ tg (P x 8) = (8, 0, 8)) ∧ (∀ k, k < 8 → I (P x 6) k = jud k) ∧ (∀ k, k < 8 → I (P x 7) k = hck k) ∧ ∀ k, k < 48 → I (P x 8) k = rev k
def HR (tg : Tg) (K : KT) (P : PT) (I : IT) (x : Nat) (s : Hl) : Prop := HRx tg K I x s.min s.frz ∧ HRs tg P x ∧ HRd tg P I x s.desk s.din ∧ HRp tg K P I x s.np s.pb ∧ HRe tg K P I x s.ne s.en ∧ HRa tg P I x s.rev s.jud s.hck
section RF
variable {tg : Tg} {K : KT} {P : PT} {I I' : IT} {Q : Nat × Nat × Nat → Prop} {x a t i c j : Nat}
theorem PgR.fr {g : Pg} (h : PgR tg P I a t i c g) (hf : FrT tg Q I I') (hq : ∀ k, ¬ Q (t, i, k)) : PgR tg P I' a t i c g := ⟨h.1, h.2.fr (hf.at h.1.1 (hq _)) (hf.at h.1.2.1 (hq _)) (hf.at h.1.2.2 (hq _))⟩
theorem RwR.fr {r : Rw} (h : RwR tg P I a t i c r) (hf : FrT tg Q I I') (hq : ∀ k, ¬ Q (t, i, k)) : RwR tg P I' a t i c r := ⟨h.1, h.2.fr (hf.at h.1.1 (hq _)) (hf.at h.1.2 (hq _))⟩
theorem TrR.fr {inp ans : Rw} {grp : Int} (h : TrR tg P I i j a inp ans grp) (hf : FrT tg Q I I') (hq : ∀ k, ¬ Q (5, i, k)) : TrR tg P I' i j a inp ans grp := ⟨h.1, h.2.1.fr hf hq, h.2.2.1.fr hf hq, by rw [hf.at h.1 (hq _)]; exact h.2.2.2⟩
theorem PbR.fr {b : Pb} (h : PbR tg K P I i a b) (hf : FrT tg Q I I') (hq : ∀ k, ¬ Q (4, i, k)) (hq2 : ∀ k, ¬ Q (5, i, k)) : PbR tg K P I' i a b := by
  obtain ⟨h1, h2, h3, h4, h5, h6⟩ := h
  have e1 := hf.at h1.1 (hq _)
  refine ⟨h1, by rw [e1]; exact h2, h3.fr hf hq, h4.fr (hf.at h1.2.1 (hq _)), fun j hj => (h5 j hj).fr hf hq2, ?_⟩
  rw [hf.at h1.2.2.1 (hq _)]
  exact h6
theorem EnR.fr {n : En} {pl e : Nat} (h : EnR tg P I pl e a n) (hf : FrT tg Q I I') (hq : ∀ k, ¬ Q (6, e, k)) : EnR tg P I' pl e a n := by
  obtain ⟨h1, h2, h3, h4⟩ := h
  have e1 := hf.at h1 (hq _)
  exact ⟨h1, h2.fr hf hq, h3, by rw [e1]; exact h4⟩
theorem HRx.fr {mi fz : Int} (h : HRx tg K I x mi fz) (hf : FrT tg Q I I') (hq : ¬ Q (0, 0, 0)) : HRx tg K I' x mi fz := by
  have e1 := hf.at h.1 hq
  exact ⟨h.1, h.2.1, by rw [e1]; exact h.2.2.1, by rw [e1]; exact h.2.2.2⟩
theorem HRd.fr {g : Pg} {r : Rw} (h : HRd tg P I x g r) (hf : FrT tg Q I I') (hq : ∀ k, ¬ Q (1, 0, k)) (hq2 : ∀ k, ¬ Q (2, 0, k)) : HRd tg P I' x g r := ⟨h.1.fr hf hq, h.2.fr hf hq2⟩
theorem HRp.fr {np : Nat} {pb : Nat → Pb} (h : HRp tg K P I x np pb) (hf : FrT tg Q I I') (hq : ¬ Q (9, 0, 3)) (hq1 : ∀ i k, ¬ Q (4, i, k)) (hq2 : ∀ i k, ¬ Q (5, i, k)) : HRp tg K P I' x np pb := ⟨h.1, h.2.1.fr (hf.at h.1.1 hq), fun i hi => (h.2.2 i hi).fr hf (hq1 i) (hq2 i)⟩
theorem HRe.fr {ne : Nat} {en : Nat → En} (h : HRe tg K P I x ne en) (hf : FrT tg Q I I') (hq : ¬ Q (9, 0, 4)) (hq1 : ∀ i k, ¬ Q (6, i, k)) : HRe tg K P I' x ne en := ⟨h.1, h.2.1.fr (hf.at h.1.1 hq), fun i hi => (h.2.2 i hi).fr hf (hq1 i)⟩
theorem HRa.fr {r j h : Nat → Int} (q : HRa tg P I x r j h) (hf : FrT tg Q I I') (hq : ¬ Q (8, 0, 6) ∧ ¬ Q (8, 0, 7) ∧ ¬ Q (8, 0, 8)) : HRa tg P I' x r j h := by
  refine ⟨q.1, ?_⟩
  rw [hf.at q.1.1 hq.1, hf.at q.1.2.1 hq.2.1, hf.at q.1.2.2 hq.2.2]
  exact q.2
/-- cells that hold nothing of the hall itself: the machine, the standings, the common row; the model's -/
def scr (u : Nat × Nat × Nat) : Prop := u.1 = 3 ∨ u.1 = 7 ∨ 11 ≤ u.1 ∨ (u.1 = 8 ∧ u.2.2 = 9)
theorem scr_n {t i c : Nat} (h : t = 0 ∨ t = 1 ∨ t = 2 ∨ t = 4 ∨ t = 5 ∨ t = 6 ∨ t = 9 ∨ (t = 8 ∧ c ≠ 9)) : ¬ scr (t, i, c) := by
  unfold scr
  dsimp only
  omega
theorem HR.fr {s : Hl} (h : HR tg K P I x s) (hf : FrT tg scr I I') : HR tg K P I' x s := by
  obtain ⟨h1, h2, h3, h4, h5, h6⟩ := h
  exact ⟨h1.fr hf (scr_n (by omega)), h2, h3.fr hf (fun _ => scr_n (by omega)) (fun _ => scr_n (by omega)), h4.fr hf (scr_n (by omega)) (fun _ _ => scr_n (by omega)) (fun _ _ => scr_n (by omega)), h5.fr hf (scr_n (by omega)) (fun _ _ => scr_n (by omega)), h6.fr hf ⟨scr_n (by omega), scr_n (by omega), scr_n (by omega)⟩⟩
/-- the machine's cells, by their tags -/
abbrev tgM (u : Nat × Nat × Nat) : Prop := u.1 = 3
theorem tgM_scr {u : Nat × Nat × Nat} (h : tgM u) : scr u := Or.inl h
theorem HRs.md (h : HRs tg P x) : MD P (P x 2) := by
  obtain ⟨⟨h1, h2, h3, h4, h5⟩, -⟩ := h
  exact ⟨⟨tg_ne h2 h1 (by decide), tg_ne h4 h1 (by decide), tg_ne h3 h1 (by decide), tg_ne h5 h1 (by decide)⟩, ⟨tg_ne h4 h2 (by decide), tg_ne h3 h2 (by decide), tg_ne h5 h2 (by decide)⟩, ⟨tg_ne h3 h4 (by decide), tg_ne h5 h4 (by decide)⟩, tg_ne h5 h3 (by decide)⟩
theorem HRs.tm (h : HRs tg P x) {b : Nat} (hb : TM P (P x 2) b) : (tg b).1 = 3 := by
  obtain ⟨⟨h1, h2, h3, h4, h5⟩, -⟩ := h
  rcases hb with rfl | rfl | rfl | rfl | rfl
  · rw [h1]
  · rw [h2]
  · rw [h4]
  · rw [h3]
  · rw [h5]
theorem HRs.fm (h : HRs tg P x) (hf : FrM P (P x 2) I I') : FrT tg tgM I I' := fun b hb => hf b (fun e => hb (h.tm e))
theorem PgR.nt {g : Pg} (h : PgR tg P I a t i c g) (hs : HRs tg P x) (ht : t ≠ 3) : NtP P (P x 2) a := ⟨fun e => ht (by have := hs.tm e; rw [h.1.1] at this; exact this), fun e => ht (by have := hs.tm e; rw [h.1.2.1] at this; exact this), fun e => ht (by have := hs.tm e; rw [h.1.2.2] at this; exact this)⟩
theorem RwR.nt {r : Rw} (h : RwR tg P I a t i c r) (hs : HRs tg P x) (ht : t ≠ 3) : NtR P (P x 2) a := ⟨fun e => ht (by have := hs.tm e; rw [h.1.1] at this; exact this), fun e => ht (by have := hs.tm e; rw [h.1.2] at this; exact this)⟩
/-- a run by the hall's machine -/
theorem h_exec {g : Pg} {r : Rw} {t2 i2 c2 b : Nat} (hs : HRs tg P x) (hg : g.ok) (hr : r.ok) (lim : Nat) (hl : lim ≤ 500) (h1 : PgR tg P I a t i c g) (h2 : RwR tg P I b t2 i2 c2 r) (ht : t ≠ 3) (ht2 : t2 ≠ 3) :
    ∃ I', f_X1_execute K P I (P x 2) a b (lim : Int) = some ((runA g r lim).e, I') ∧ RowI P I' (P (P x 2) 1) (runA g r lim).o ∧ I' (P x 2) 2 = ((runA g r lim).k : Int) ∧ FrT tg tgM I I' := by
  obtain ⟨I', u1, u2, u3, u4⟩ := e_exec (K := K) hs.md hg hr (h1.nt hs ht) (h2.nt hs ht2) lim hl h1.2 h2.2
  exact ⟨I', u1, u2, u3, hs.fm u4⟩
end RF
