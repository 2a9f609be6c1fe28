/-! LIKENESS -/
abbrev alk (g : Pg) (i : Nat) (q : Pg) (j : Nat) : Prop := g.2.1 i = q.2.1 j ∧ ((g.2.1 i = 7 ∨ g.2.1 i = 8) → g.2.2 i = q.2.2 j)
def lkJ (g q : Pg) (i : Nat) : Nat → Nat → Int → (Nat → Int) → (Nat → Int)
  | 0, _, _, f => f
  | d + 1, j, dg, f => lkJ g q i d (j + 1) (f (j + 1)) (updf f (j + 1) (if alk g i q j then wr (dg + 1) else if f (j + 1) < f j then f j else f (j + 1)))
def lkI (g q : Pg) : Nat → Nat → (Nat → Int) → (Nat → Int)
  | 0, _, f => f
  | d + 1, i, f => lkI g q d (i + 1) (lkJ g q i q.1 0 0 f)
def likeV (g q : Pg) : Int := if 0 < imax (g.1 : Int) (q.1 : Int) then idv (wr (100 * lkI g q g.1 0 (fun _ => 0) q.1)) (imax (g.1 : Int) (q.1 : Int)) else 100
def likenessS (s : Hl) (e o : Int) : Out := if (0 ≤ e ∧ e < (s.ne : Int)) ∧ (0 ≤ o ∧ o < (s.ne : Int)) then (0, likeV (s.en e.toNat).prg (s.en o.toNat).prg, s) else (3, 0, s)
theorem likenessS_ok {s : Hl} (h : s.ok) {e o : Int} : (likenessS s e o).2.2.ok := by
  unfold likenessS
  split <;> exact h
section LK1
variable {tg : Tg} {K : KT} {P : PT} {I : IT} {x m a b i j c p e : Nat} {s : Hl} {ks : List Nat} {g q : Pg}
theorem h_alike (ha : PgI P I a g) (hb : PgI P I b q) (hg : g.1 ≤ 16) (hq : q.1 ≤ 16) (hi : i < g.1) (hj : j < q.1) : f_X3_isAlikeAt K P I a i b j = some (if alk g i q j then 1 else 0) := by
  have h60 : ∀ t0 : Int, g.2.1 i = q.2.1 j → (t0 = 0 ↔ ¬ (g.2.1 i = 7 ∨ g.2.1 i = 8)) → f_X3_isAlikeAt_60 K P I a i b j t0 = some (if alk g i q j then 1 else 0) := fun t0 he ht => by
    unfold f_X3_isAlikeAt_60
    by_cases z : t0 = 0
    · rw [if_pos z, if_pos (show alk g i q j from ⟨he, fun y => absurd y (ht.mp z)⟩)]
    · rw [if_neg z, ck_t (by omega), ck_t (by omega), Int.toNat_natCast, Int.toNat_natCast, (ha.2 i hi).2, (hb.2 j hj).2]
      by_cases y : g.2.2 i = q.2.2 j
      · rw [if_pos y, if_pos (show alk g i q j from ⟨he, fun _ => y⟩)]
      · rw [if_neg y, if_neg (fun w : alk g i q j => y (w.2 (Classical.byContradiction fun u => z (ht.mpr u))))]
  unfold f_X3_isAlikeAt f_X3_isAlikeAt_55 f_X3_has
  rw [ha.1, hb.1, if_neg (by omega), if_neg (by omega), if_neg (by omega), bp_s, if_neg (by decide), if_neg (by omega), if_neg (by omega), if_neg (by omega), bp_s, if_neg (by decide), ck_t (by omega), ck_t (by omega), ck_t (by omega), ck_t (by omega), Int.toNat_natCast, Int.toNat_natCast, (ha.2 i hi).1, (hb.2 j hj).1]
  by_cases c1 : g.2.1 i = q.2.1 j
  · rw [if_pos c1]
    by_cases c2 : g.2.1 i = 7
    · rw [if_pos c2, h60 1 c1 ⟨fun y => absurd y (by decide), fun y => absurd (Or.inl c2) y⟩]
    · rw [if_neg c2]
      by_cases c3 : g.2.1 i = 8
      · rw [if_pos c3, h60 1 c1 ⟨fun y => absurd y (by decide), fun y => absurd (Or.inr c3) y⟩]
      · rw [if_neg c3, h60 0 c1 ⟨fun _ y => by
          rcases y with y | y
          · exact c2 y
          · exact c3 y, fun _ => rfl⟩]
  · rw [if_neg c1, if_neg (fun y : alk g i q j => c1 y.1)]
abbrev RwL (I : IT) (a : Nat) (f : Nat → Int) : Prop := ∀ j, j < 17 → I a j = f j
theorem RwL.ss {f : Nat → Int} {k : Nat} {v : Int} (h : RwL I a f) : RwL (up I a k v) a (updf f k v) := fun j hj => by
  rw [up_apply]
  unfold updf
  by_cases z : j = k
  · rw [if_pos ⟨rfl, z⟩, if_pos z]
  · rw [if_neg (fun y => z y.2), if_neg z]; exact h j hj
theorem PgI.at9 {u : Nat} (ha : PgI P I a g) (h1 : a ≠ u) (h2 : P a 0 ≠ u) (h3 : P a 1 ≠ u) {I' : IT} (hf : ∀ b, b ≠ u → I' b = I b) : PgI P I' a g := ha.fr (hf a h1) (hf _ h2) (hf _ h3)
theorem h_lkJ_l {k10 : IT → Nat → Nat → Nat → Int → Option (Int × IT)} (ga : a ≠ P x 9 ∧ P a 0 ≠ P x 9 ∧ P a 1 ≠ P x 9) (gb : b ≠ P x 9 ∧ P b 0 ≠ P x 9 ∧ P b 1 ≠ P x 9) (hg : g.1 ≤ 16) (hq : q.1 ≤ 16) (hi : i < g.1) : ∀ (d fuel j : Nat) (dg : Int) (f : Nat → Int) (I : IT), d < fuel → j + d = q.1 → PgI P I a g → PgI P I b q → RwL I (P x 9) f → ∃ I', f_X7_longestCommon_24 K P k10 fuel I x a b i dg (j : Int) = k10 I' x a b ((i + 1 : Nat) : Int) ∧ RwL I' (P x 9) (lkJ g q i d j dg f) ∧ ∀ c, c ≠ P x 9 → I' c = I c := by
  intro d
  induction d with
  | zero =>
    intro fuel j dg f I hf hk ha hb h
    obtain ⟨n, rfl⟩ : ∃ n, fuel = n + 1 := ⟨fuel - 1, by omega⟩
    unfold f_X7_longestCommon_24 f_X7_longestCommon_114
    rw [hb.1, if_pos (by omega), show wr ((i : Int) + 1) = ((i + 1 : Nat) : Int) by rw [wr_id (by omega) (by omega)]; rfl]
    exact ⟨I, rfl, h, fun _ _ => rfl⟩
  | succ d ih =>
    intro fuel j dg f I hf hk ha hb h
    obtain ⟨n, rfl⟩ : ∃ n, fuel = n + 1 := ⟨fuel - 1, by omega⟩
    have ew : wr ((j : Int) + 1) = ((j + 1 : Nat) : Int) := by rw [wr_id (by omega) (by omega)]; rfl
    have go : ∀ w : Int, w = (if alk g i q j then wr (dg + 1) else if f (j + 1) < f j then f j else f (j + 1)) → ∃ I', f_X7_longestCommon_104 K P k10 (f_X7_longestCommon_24 K P k10 n) (up I (P x 9) (j + 1) w) x a b i j (f (j + 1)) = k10 I' x a b ((i + 1 : Nat) : Int) ∧ RwL I' (P x 9) (lkJ g q i (d + 1) j dg f) ∧ ∀ c, c ≠ P x 9 → I' c = I c := fun w hw => by
      unfold f_X7_longestCommon_104
      rw [ew]
      have hu : ∀ c, c ≠ P x 9 → up I (P x 9) (j + 1) w c = I c := fun c hc => up_b hc
      obtain ⟨I', u1, u2, u3⟩ := ih n (j + 1) (f (j + 1)) (updf f (j + 1) w) (up I (P x 9) (j + 1) w) (by omega) (by omega) (ha.at9 ga.1 ga.2.1 ga.2.2 hu) (hb.at9 gb.1 gb.2.1 gb.2.2 hu) h.ss
      refine ⟨I', u1, ?_, fun c hc => (u3 c hc).trans (hu c hc)⟩
      rw [hw] at u2
      exact u2
    unfold f_X7_longestCommon_24
    rw [hb.1, if_neg (by omega), ew, if_neg (by omega), ck_t (by omega), h_alike ha hb hg hq hi (by omega), bp_s]
    by_cases z : alk g i q j
    · rw [if_pos z, if_neg (by decide), ck_t (by omega), bnd_e, Int.toNat_natCast, h (j + 1) (by omega)]
      exact go _ (if_pos z).symm
    · rw [if_neg z, if_pos rfl, ck_t (by omega), ck_t (by omega), bnd_e, Int.toNat_natCast, Int.toNat_natCast, h (j + 1) (by omega), h j (by omega)]
      exact go _ (if_neg z).symm
theorem h_lkI_l (ga : a ≠ P x 9 ∧ P a 0 ≠ P x 9 ∧ P a 1 ≠ P x 9) (gb : b ≠ P x 9 ∧ P b 0 ≠ P x 9 ∧ P b 1 ≠ P x 9) (hg : g.1 ≤ 16) (hq : q.1 ≤ 16) : ∀ (d fuel i : Nat) (f : Nat → Int) (I : IT), d < fuel → i + d = g.1 → PgI P I a g → PgI P I b q → RwL I (P x 9) f → ∃ I', f_X7_longestCommon_10 K P fuel I x a b (i : Int) = some (lkI g q d i f q.1, I') ∧ ∀ c, c ≠ P x 9 → I' c = I c := by
  intro d
  induction d with
  | zero =>
    intro fuel i f I hf hk ha hb h
    obtain ⟨n, rfl⟩ : ∃ n, fuel = n + 1 := ⟨fuel - 1, by omega⟩
    unfold f_X7_longestCommon_10 f_X7_longestCommon_120 imin
    rw [ha.1, hb.1, if_pos (by omega)]
    refine ⟨I, ?_, fun _ _ => rfl⟩
    rw [if_neg (by omega), ck_t (by omega), Int.toNat_natCast, h q.1 (by omega)]
    rfl
  | succ d ih =>
    intro fuel i f I hf hk ha hb h
    obtain ⟨n, rfl⟩ : ∃ n, fuel = n + 1 := ⟨fuel - 1, by omega⟩
    obtain ⟨I1, u1, u2, u3⟩ := h_lkJ_l (K := K) (k10 := f_X7_longestCommon_10 K P n) ga gb hg hq (i := i) (by omega) q.1 FU 0 0 f I (by unfold FU; omega) (by omega) ha hb h
    obtain ⟨I', k1, k2⟩ := ih n (i + 1) _ I1 (by omega) (by omega) (ha.at9 ga.1 ga.2.1 ga.2.2 u3) (hb.at9 gb.1 gb.2.1 gb.2.2 u3) u2
    unfold f_X7_longestCommon_10
    rw [ha.1, if_neg (by omega), show f_X7_longestCommon_24 K P (f_X7_longestCommon_10 K P n) FU I x a b i 0 0 = _ from u1]
    exact ⟨I', k1, fun c hc => (k2 c hc).trans (u3 c hc)⟩
theorem h_longest (ga : a ≠ P x 9 ∧ P a 0 ≠ P x 9 ∧ P a 1 ≠ P x 9) (gb : b ≠ P x 9 ∧ P b 0 ≠ P x 9 ∧ P b 1 ≠ P x 9) (hg : g.1 ≤ 16) (hq : q.1 ≤ 16) (ha : PgI P I a g) (hb : PgI P I b q) : ∃ I', f_X7_longestCommon K P I x a b = some (lkI g q g.1 0 (fun _ => 0) q.1, I') ∧ ∀ c, c ≠ P x 9 → I' c = I c := by
  obtain ⟨I1, u1, u2, -, u3⟩ := fil17_l (K := K) (P := P) (a := P x 9) 17 FU 0 I (by decide) (by decide)
  obtain ⟨I', k1, k2⟩ := h_lkI_l (K := K) ga gb hg hq g.1 FU 0 (fun _ => 0) I1 (by unfold FU; omega) (by omega) (ha.at9 ga.1 ga.2.1 ga.2.2 u3) (hb.at9 gb.1 gb.2.1 gb.2.2 u3) (fun j hj => u2 j (Nat.zero_le _) hj)
  unfold f_X7_longestCommon f_J7_fill_168
  rw [show f_J7_fill_168_5 K P FU I (P x 9) 0 0 17 = _ from u1, bp_s]
  exact ⟨I', k1, fun c hc => (k2 c hc).trans (u3 c hc)⟩
theorem h_likeness {e o : Int} (h : HR tg K P I x s) (hs : s.ok) : HOut tg K P x I (f_X7_likeness K P I x e o) (likenessS s e o) := by
  unfold f_X7_likeness likenessS
  rw [h_eAt h]
  by_cases c1 : 0 ≤ e ∧ e < (s.ne : Int)
  · rw [if_pos c1, bx_0, ck_t (h.2.2.2.2.1.2.1.2.1 _ (by omega)), h_eAt h]
    by_cases c2 : 0 ≤ o ∧ o < (s.ne : Int)
    · rw [if_pos c2, bx_0, ck_t (h.2.2.2.2.1.2.1.2.1 _ (by omega)), if_pos (show (0 ≤ e ∧ e < (s.ne : Int)) ∧ (0 ≤ o ∧ o < (s.ne : Int)) from ⟨c1, c2⟩)]
      obtain ⟨-, a2, -, -⟩ := h.2.2.2.2.1.2.2 e.toNat (by omega)
      obtain ⟨-, b2, -, -⟩ := h.2.2.2.2.1.2.2 o.toNat (by omega)
      have na := hs.2.2.2.2.2.1 e.toNat (by omega)
      have nb := hs.2.2.2.2.2.1 o.toNat (by omega)
      have t9 := h.2.1.2.2
      rw [a2.2.1, b2.2.1]
      show HOut tg K P x I (if 0 < imax ((s.en e.toNat).prg.1 : Int) ((s.en o.toNat).prg.1 : Int) then _ else _) (0, likeV _ _, s)
      unfold likeV
      by_cases z : 0 < imax ((s.en e.toNat).prg.1 : Int) ((s.en o.toNat).prg.1 : Int)
      · rw [if_pos z, if_pos z]
        obtain ⟨I', k1, k2⟩ := h_longest (K := K) (x := x) ⟨tg_ne a2.1.1 t9 (by simp), tg_ne a2.1.2.1 t9 (by simp), tg_ne a2.1.2.2 t9 (by simp)⟩ ⟨tg_ne b2.1.1 t9 (by simp), tg_ne b2.1.2.1 t9 (by simp), tg_ne b2.1.2.2 t9 (by simp)⟩ na.2.2.2.1.1 nb.2.2.2.1.1 a2.2 b2.2
        have f : FrT tg (fun u => u = (8, 0, 9)) I I' := fun c hc => k2 c (fun y => hc (by rw [y]; exact t9))
        rw [k1, bi_s, ck_t (by omega)]
        exact ⟨_, I', rfl, fun _ => rfl, h.fr (f.mono (fun u y => by rw [y]; exact Or.inr (Or.inr (Or.inr ⟨rfl, rfl⟩)))), f.mono (fun u y => by rw [y]; exact (show 8 ≤ 10 by decide))⟩
      · rw [if_neg z, if_neg z]
        exact ⟨_, I, rfl, fun _ => rfl, h, FrT.rf⟩
    · rw [if_neg c2, if_neg (fun y : (0 ≤ e ∧ e < (s.ne : Int)) ∧ (0 ≤ o ∧ o < (s.ne : Int)) => c2 y.2), bx_s (by decide)]
      exact HOut.same (by decide) h rfl
  · rw [if_neg c1, if_neg (fun y : (0 ≤ e ∧ e < (s.ne : Int)) ∧ (0 ≤ o ∧ o < (s.ne : Int)) => c1 y.1), bx_s (by decide)]
    exact HOut.same (by decide) h rfl
-- the model
theorem XPg.at37 {sl : Nat} (hX : XD P m) (ha : XPg P I m sl g) {I' : IT} (hf : ∀ c, c ≠ P m 37 → I' c = I c) : XPg P I' m sl g := ⟨by rw [hf _ (hX.2 1 37 (by decide) (by decide) (by decide))]; exact ha.1, fun j hj => by rw [hf _ (hX.2 2 37 (by decide) (by decide) (by decide)), hf _ (hX.2 3 37 (by decide) (by decide) (by decide))]; exact ha.2 j hj⟩
end LK1
