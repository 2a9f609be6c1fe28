/-! BOARDS. v e: what is told of entry e: -1 nothing, 0 right, else wrong -/
/-- the first right entry of a team and problem among the first k, or -1 -/
def frE (s : Hl) (v : Nat → Int) (t p : Nat) : Nat → Int
  | 0 => -1
  | k + 1 => if frE s v t p k = -1 then (if (s.en k).team = t ∧ (s.en k).prob = p ∧ v k = 0 then (k : Int) else -1) else frE s v t p k
/-- the tries before it -/
def trE (s : Hl) (v : Nat → Int) (t p : Nat) : Nat → Int
  | 0 => 0
  | k + 1 => if frE s v t p k = -1 ∧ (s.en k).team = t ∧ (s.en k).prob = p ∧ v k ≠ -1 ∧ v k ≠ 0 then trE s v t p k + 1 else trE s v t p k
def Sg (f : Nat → Int) : Nat → Int
  | 0 => 0
  | n + 1 => Sg f n + f n
def Mx (f : Nat → Int) : Nat → Int
  | 0 => 0
  | n + 1 => if f n ≤ Mx f n then Mx f n else f n
def bS (s : Hl) (v : Nat → Int) (t k p : Nat) : Int := if frE s v t p k = -1 then 0 else 1
def bU (s : Hl) (v : Nat → Int) (t k p : Nat) : Int := if frE s v t p k = -1 then 0 else (s.en (frE s v t p k).toNat).whn + 20 * trE s v t p k
def bL (s : Hl) (v : Nat → Int) (t k p : Nat) : Int := if frE s v t p k = -1 then 0 else (s.en (frE s v t p k).toNat).whn
theorem frE_rg {s : Hl} {v : Nat → Int} {t p : Nat} : ∀ k, frE s v t p k = -1 ∨ (0 ≤ frE s v t p k ∧ frE s v t p k < (k : Int))
  | 0 => Or.inl rfl
  | k + 1 => by
    have e : frE s v t p (k + 1) = if frE s v t p k = -1 then (if (s.en k).team = t ∧ (s.en k).prob = p ∧ v k = 0 then (k : Int) else -1) else frE s v t p k := rfl
    have h := frE_rg (s := s) (v := v) (t := t) (p := p) k
    rw [e]
    by_cases c1 : frE s v t p k = -1
    · rw [if_pos c1]
      by_cases c2 : (s.en k).team = t ∧ (s.en k).prob = p ∧ v k = 0
      · rw [if_pos c2]; exact Or.inr ⟨by omega, by omega⟩
      · rw [if_neg c2]; exact Or.inl rfl
    · rw [if_neg c1]; omega
theorem trE_rg {s : Hl} {v : Nat → Int} {t p : Nat} : ∀ k, 0 ≤ trE s v t p k ∧ trE s v t p k ≤ (k : Int)
  | 0 => ⟨Int.le_refl _, Int.le_refl _⟩
  | k + 1 => by
    have e : trE s v t p (k + 1) = if frE s v t p k = -1 ∧ (s.en k).team = t ∧ (s.en k).prob = p ∧ v k ≠ -1 ∧ v k ≠ 0 then trE s v t p k + 1 else trE s v t p k := rfl
    have h := trE_rg (s := s) (v := v) (t := t) (p := p) k
    rw [e]
    by_cases c1 : frE s v t p k = -1 ∧ (s.en k).team = t ∧ (s.en k).prob = p ∧ v k ≠ -1 ∧ v k ≠ 0
    · rw [if_pos c1]; omega
    · rw [if_neg c1]; omega
theorem frE_o {s : Hl} {v : Nat → Int} {t p k : Nat} (h : ¬ ((s.en k).team = t ∧ (s.en k).prob = p ∧ v k = 0)) : frE s v t p (k + 1) = frE s v t p k := by
  show (if frE s v t p k = -1 then (if (s.en k).team = t ∧ (s.en k).prob = p ∧ v k = 0 then (k : Int) else -1) else frE s v t p k) = frE s v t p k
  rw [if_neg h]
  by_cases c : frE s v t p k = -1
  · rw [if_pos c, c]
  · rw [if_neg c]
theorem frE_s {s : Hl} {v : Nat → Int} {t p k : Nat} (h : frE s v t p k ≠ -1) : frE s v t p (k + 1) = frE s v t p k := if_neg h
theorem frE_n {s : Hl} {v : Nat → Int} {t p k : Nat} (h : frE s v t p k = -1) (h2 : (s.en k).team = t ∧ (s.en k).prob = p ∧ v k = 0) : frE s v t p (k + 1) = (k : Int) := by
  show (if frE s v t p k = -1 then (if (s.en k).team = t ∧ (s.en k).prob = p ∧ v k = 0 then (k : Int) else -1) else frE s v t p k) = (k : Int)
  rw [if_pos h, if_pos h2]
theorem trE_o {s : Hl} {v : Nat → Int} {t p k : Nat} (h : ¬ (frE s v t p k = -1 ∧ (s.en k).team = t ∧ (s.en k).prob = p ∧ v k ≠ -1 ∧ v k ≠ 0)) : trE s v t p (k + 1) = trE s v t p k := if_neg h
theorem trE_n {s : Hl} {v : Nat → Int} {t p k : Nat} (h : frE s v t p k = -1 ∧ (s.en k).team = t ∧ (s.en k).prob = p ∧ v k ≠ -1 ∧ v k ≠ 0) : trE s v t p (k + 1) = trE s v t p k + 1 := if_pos h
theorem Sg_eq {f g : Nat → Int} : ∀ n, (∀ p, p < n → f p = g p) → Sg f n = Sg g n
  | 0, _ => rfl
  | n + 1, h => by
    show Sg f n + f n = Sg g n + g n
    rw [Sg_eq n (fun p hp => h p (by omega)), h n (by omega)]
theorem Sg_up {f g : Nat → Int} {q : Nat} {d : Int} : ∀ n, q < n → (∀ p, p < n → p ≠ q → f p = g p) → f q = g q + d → Sg f n = Sg g n + d
  | 0, h, _, _ => absurd h (Nat.not_lt_zero _)
  | n + 1, h, h2, h3 => by
    show Sg f n + f n = Sg g n + g n + d
    by_cases c : q = n
    · subst c
      rw [Sg_eq q (fun p hp => h2 p (by omega) (by omega)), h3]; omega
    · rw [Sg_up (f := f) (g := g) n (by omega) (fun p hp hq => h2 p (by omega) hq) h3, h2 n (by omega) (fun z => c z.symm)]; omega
theorem Sg_rg {f : Nat → Int} {u : Int} : ∀ n, (∀ p, 0 ≤ f p ∧ f p ≤ u) → 0 ≤ Sg f n ∧ Sg f n ≤ (n : Int) * u
  | 0, _ => ⟨Int.le_refl _, by rw [show ((0 : Nat) : Int) * u = 0 by simp]; exact Int.le_refl _⟩
  | n + 1, h => by
    have h1 := Sg_rg (f := f) (u := u) n h
    have h2 := h n
    have e : ((n + 1 : Nat) : Int) * u = (n : Int) * u + u := by rw [Int.natCast_add, Int.add_mul]; simp
    show 0 ≤ Sg f n + f n ∧ Sg f n + f n ≤ ((n + 1 : Nat) : Int) * u
    rw [e]
    omega
theorem Sg_ext {f : Nat → Int} {n : Nat} : ∀ d, (∀ p, n ≤ p → f p = 0) → Sg f (n + d) = Sg f n
  | 0, _ => rfl
  | d + 1, h => by
    show Sg f (n + d) + f (n + d) = Sg f n
    rw [Sg_ext d h, h (n + d) (by omega)]; omega
theorem Mx_eq {f g : Nat → Int} : ∀ n, (∀ p, p < n → f p = g p) → Mx f n = Mx g n
  | 0, _ => rfl
  | n + 1, h => by
    show (if f n ≤ Mx f n then Mx f n else f n) = if g n ≤ Mx g n then Mx g n else g n
    rw [Mx_eq n (fun p hp => h p (by omega)), h n (by omega)]
theorem Mx_rg {f : Nat → Int} {u : Int} (hu : 0 ≤ u) : ∀ n, (∀ p, 0 ≤ f p ∧ f p ≤ u) → 0 ≤ Mx f n ∧ Mx f n ≤ u
  | 0, _ => ⟨Int.le_refl _, hu⟩
  | n + 1, h => by
    have h1 := Mx_rg (f := f) hu n h
    have h2 := h n
    show 0 ≤ (if f n ≤ Mx f n then Mx f n else f n) ∧ (if f n ≤ Mx f n then Mx f n else f n) ≤ u
    by_cases c : f n ≤ Mx f n
    · rw [if_pos c]; omega
    · rw [if_neg c]; omega
theorem Mx_up {f g : Nat → Int} {q : Nat} {w : Int} : ∀ n, q < n → (∀ p, p < n → p ≠ q → f p = g p) → f q = w → g q = 0 → 0 ≤ w → (∀ p, 0 ≤ g p) → Mx f n = if w ≤ Mx g n then Mx g n else w
  | 0, h, _, _, _, _, _ => absurd h (Nat.not_lt_zero _)
  | n + 1, h, h2, h3, h4, h5, h6 => by
    have h0 : ∀ n, 0 ≤ Mx g n := fun n => by
      induction n with
      | zero => exact Int.le_refl _
      | succ n ih =>
        show 0 ≤ if g n ≤ Mx g n then Mx g n else g n
        by_cases c : g n ≤ Mx g n
        · rw [if_pos c]; exact ih
        · rw [if_neg c]; exact h6 n
    show (if f n ≤ Mx f n then Mx f n else f n) = if w ≤ (if g n ≤ Mx g n then Mx g n else g n) then (if g n ≤ Mx g n then Mx g n else g n) else w
    by_cases c : q = n
    · subst c
      rw [Mx_eq q (fun p hp => h2 p (by omega) (by omega)), h3, h4, if_pos (h0 q)]
    · rw [Mx_up (f := f) (g := g) n (by omega) (fun p hp hq => h2 p (by omega) hq) h3 h4 h5 h6, h2 n (by omega) (fun z => c z.symm)]
      by_cases c1 : w ≤ Mx g n
      · rw [if_pos c1]
        by_cases c2 : g n ≤ Mx g n
        · rw [if_pos c2, if_pos c1]
        · rw [if_neg c2, if_pos (by omega)]
      · rw [if_neg c1]
        by_cases c2 : g n ≤ Mx g n
        · rw [if_pos c2, if_neg c1, if_pos (by omega)]
        · rw [if_neg c2]
          by_cases c3 : g n ≤ w
          · rw [if_pos c3]
            by_cases c4 : w ≤ g n
            · rw [if_pos c4]; omega
            · rw [if_neg c4]
          · rw [if_neg c3, if_pos (by omega)]
theorem Mx_ext {f : Nat → Int} {n : Nat} (h0 : 0 ≤ Mx f n) : ∀ d, (∀ p, n ≤ p → f p = 0) → Mx f (n + d) = Mx f n
  | 0, _ => rfl
  | d + 1, h => by
    show (if f (n + d) ≤ Mx f (n + d) then Mx f (n + d) else f (n + d)) = Mx f n
    rw [Mx_ext h0 d h, h (n + d) (by omega), if_pos h0]
/-- what the class's standings hold after the first k entries -/
def CS (s : Hl) (v : Nat → Int) (k : Nat) (P : PT) (I : IT) (st : Nat) : Prop := ∀ t, t < 8 → (I (P st 0) t = Sg (bS s v t k) 6 ∧ I (P st 1) t = Sg (bU s v t k) 6 ∧ I (P st 2) t = Mx (bL s v t k) 6) ∧ ∀ p, p < 6 → I (P st 3) (6 * t + p) = trE s v t p k ∧ I (P st 4) (6 * t + p) = bS s v t k p
theorem bU_rg {s : Hl} (h : s.ok) {v : Nat → Int} {t k : Nat} (hk : k ≤ s.ne) (p : Nat) : 0 ≤ bU s v t k p ∧ bU s v t k p ≤ 11199 := by
  have h1 := frE_rg (s := s) (v := v) (t := t) (p := p) k
  have h2 := trE_rg (s := s) (v := v) (t := t) (p := p) k
  have hne := h.2.2.2.2.1
  unfold bU
  by_cases c : frE s v t p k = -1
  · rw [if_pos c]; exact ⟨by decide, by decide⟩
  · rw [if_neg c]
    have h3 := (h.2.2.2.2.2.1 (frE s v t p k).toNat (by omega)).2.2.1
    omega
theorem bL_rg {s : Hl} (h : s.ok) {v : Nat → Int} {t k : Nat} (hk : k ≤ s.ne) (p : Nat) : 0 ≤ bL s v t k p ∧ bL s v t k p ≤ 9999 := by
  have h1 := frE_rg (s := s) (v := v) (t := t) (p := p) k
  unfold bL
  by_cases c : frE s v t p k = -1
  · rw [if_pos c]; exact ⟨by decide, by decide⟩
  · rw [if_neg c]
    exact (h.2.2.2.2.2.1 (frE s v t p k).toNat (by omega)).2.2.1
theorem bS_rg {s : Hl} {v : Nat → Int} {t k : Nat} (p : Nat) : 0 ≤ bS s v t k p ∧ bS s v t k p ≤ 1 := by
  unfold bS
  by_cases c : frE s v t p k = -1
  · rw [if_pos c]; exact ⟨by decide, by decide⟩
  · rw [if_neg c]; exact ⟨by decide, by decide⟩
/-- nothing told: nothing changes -/
theorem CS.skip {s : Hl} {v : Nat → Int} {k : Nat} {P : PT} {I : IT} {st : Nat} (h : CS s v k P I st) (hv : v k = -1) : CS s v (k + 1) P I st := by
  have e1 : ∀ t p, frE s v t p (k + 1) = frE s v t p k := fun t p => frE_o (fun z => by have := z.2.2; omega)
  have e2 : ∀ t p, trE s v t p (k + 1) = trE s v t p k := fun t p => trE_o (fun z => z.2.2.2.1 hv)
  have f1 : ∀ t, bS s v t (k + 1) = bS s v t k := fun t => by funext p; unfold bS; rw [e1]
  have f2 : ∀ t, bU s v t (k + 1) = bU s v t k := fun t => by funext p; unfold bU; rw [e1, e2]
  have f3 : ∀ t, bL s v t (k + 1) = bL s v t k := fun t => by funext p; unfold bL; rw [e1]
  intro t ht
  rw [f1, f2, f3]
  exact ⟨(h t ht).1, fun p hp => by rw [e2]; exact (h t ht).2 p hp⟩
theorem CS.fr {s : Hl} {v : Nat → Int} {k : Nat} {P : PT} {I I' : IT} {st : Nat} (h : CS s v k P I st) (hf : ∀ q, q < 5 → I' (P st q) = I (P st q)) : CS s v k P I' st := by
  intro t ht
  rw [hf 0 (by decide), hf 1 (by decide), hf 2 (by decide), hf 3 (by decide), hf 4 (by decide)]
  exact h t ht
section BO1
variable {tg : Tg} {K : KT} {P : PT} {I : IT} {x m a b t i c p e : Nat} {s : Hl} {ks : List Nat} {v : Nat → Int}
/-- the class counts one entry -/
theorem h_count {r : Int} (h : HR tg K P I x s) (hs : s.ok) (he : e < s.ne) (hc : CS s v e P I (P x 5)) (hv : v e ≠ -1) (hr : r = 0 ↔ v e ≠ 0) : ∃ I', f_X5_count K P I (P x 5) (elt P (P x 4) e) r = some I' ∧ CS s v (e + 1) P I' (P x 5) ∧ FrT tg (fun u => u.1 = 7 ∧ u.2.2 ≠ 0) I I' := by
  obtain ⟨q1, q2, q3, q4⟩ := h.2.2.2.2.1.2.2 e he
  obtain ⟨t5, tk⟩ := h.2.1.2.1
  have hn := hs.2.2.2.2.2.1 e he
  have hnp := hs.2.2.1
  have hne := hs.2.2.2.2.1
  have n1 : I (P (elt P (P x 4) e) 1) 0 = ((s.en e).prob : Int) := by rw [q3]; exact (h.2.2.2.1.2.2 _ hn.2.1).2.1.1
  have ht := hn.1
  have hp := hn.2.1
  have dE : ∀ k, k < 5 → elt P (P x 4) e ≠ P (P x 5) k := fun k hk => tg_ne q1 (tk k hk) (by simp)
  have dD : ∀ k j, k < 5 → j < 5 → k ≠ j → P (P x 5) k ≠ P (P x 5) j := fun k j hk hj hkj => tg_ne (tk k hk) (tk j hj) (by simp [hkj])
  have fU : ∀ k, k < 5 → ∀ (I : IT) j w, FrT tg (fun u => u.1 = 7 ∧ u.2.2 ≠ 0) I (up I (P (P x 5) k) j w) := fun k hk I j w => FrT.up (by rw [tk k hk]; exact ⟨rfl, Nat.succ_ne_zero _⟩)
  have ep : wr (wr (((s.en e).team : Int) * 6) + ((s.en e).prob : Int)) = ((6 * (s.en e).team + (s.en e).prob : Nat) : Int) := by rw [wr_id (x := ((s.en e).team : Int) * 6) (by omega) (by omega), wr_id (by omega) (by omega)]; omega
  obtain ⟨⟨c1, c2, c3⟩, c4⟩ := hc _ ht
  obtain ⟨c5, c6⟩ := c4 (s.en e).prob (by omega)
  unfold f_X5_count f_X7_pairOf
  rw [q4.1, n1, bp_s, ep, ck_t (by omega), Int.toNat_natCast, c6]
  by_cases k1 : frE s v (s.en e).team (s.en e).prob e = -1
  · have k2 : bS s v (s.en e).team e (s.en e).prob = 0 := if_pos k1
    rw [if_pos k2]
    by_cases k3 : v e = 0
    · have hr1 : r ≠ 0 := fun z => (hr.mp z) k3
      have b2 := trE_rg (s := s) (v := v) (t := (s.en e).team) (p := (s.en e).prob) e
      have b3 := hn.2.2.1
      have rS := Sg_rg (f := bS s v (s.en e).team e) 6 (fun p => bS_rg p)
      have rU := Sg_rg (f := bU s v (s.en e).team e) 6 (fun p => bU_rg hs (by omega) p)
      rw [if_neg hr1, ck_t (by omega), bnd_e, up_b (dE 4 (by decide)), q4.1, ck_t (by omega), ck_t (by omega), bnd_e, Int.toNat_natCast, up_b (dD 0 4 (by decide) (by decide) (by decide)), up_b (dE 0 (by decide)), up_b (dE 4 (by decide)), q4.1, ck_t (by omega), ck_t (by omega), ck_t (by omega), bnd_e, Int.toNat_natCast, up_b (dD 1 0 (by decide) (by decide) (by decide)), up_b (dD 1 4 (by decide) (by decide) (by decide)), up_b (dD 3 0 (by decide) (by decide) (by decide)), up_b (dD 3 4 (by decide) (by decide) (by decide)), up_b (dE 1 (by decide)), up_b (dE 0 (by decide)), up_b (dE 4 (by decide)), q4.1, q4.2.1, ck_t (by omega), ck_t (by omega), bnd_e, Int.toNat_natCast, up_b (dD 2 1 (by decide) (by decide) (by decide)), up_b (dD 2 0 (by decide) (by decide) (by decide)), up_b (dD 2 4 (by decide) (by decide) (by decide)), c1, c2, c3, c5, wr_id (x := 20 * trE s v (s.en e).team (s.en e).prob e) (by omega) (by omega), wr_id (x := (s.en e).whn + _) (by omega) (by omega), wr_id (x := Sg (bS s v (s.en e).team e) 6 + 1) (by omega) (by omega), wr_id (x := Sg (bU s v (s.en e).team e) 6 + _) (by omega) (by omega)]
      refine ⟨_, rfl, ?_, (fU 4 (by decide) _ _ _).tr ((fU 0 (by decide) _ _ _).tr ((fU 1 (by decide) _ _ _).tr (fU 2 (by decide) _ _ _)))⟩
      have g1 : frE s v (s.en e).team (s.en e).prob (e + 1) = (e : Int) := frE_n k1 ⟨rfl, rfl, k3⟩
      have g2 : ∀ t p, ¬ (t = (s.en e).team ∧ p = (s.en e).prob) → frE s v t p (e + 1) = frE s v t p e := fun t p z => frE_o (fun y => z ⟨y.1.symm, y.2.1.symm⟩)
      have g3 : ∀ t p, trE s v t p (e + 1) = trE s v t p e := fun t p => trE_o (fun y => y.2.2.2.2 k3)
      intro t ht2
      have oth : ∀ p, (t ≠ (s.en e).team ∨ p ≠ (s.en e).prob) → bS s v t (e + 1) p = bS s v t e p ∧ bU s v t (e + 1) p = bU s v t e p ∧ bL s v t (e + 1) p = bL s v t e p := fun p z => by
        have := g2 t p (fun y => by omega)
        unfold bS bU bL
        rw [this, g3]
        exact ⟨rfl, rfl, rfl⟩
      by_cases z : t = (s.en e).team
      · rw [z] at oth ⊢
        have s1 : bS s v (s.en e).team (e + 1) (s.en e).prob = bS s v (s.en e).team e (s.en e).prob + 1 := by
          rw [k2]; unfold bS; rw [g1, if_neg (by omega)]; rfl
        have s2 : bU s v (s.en e).team (e + 1) (s.en e).prob = bU s v (s.en e).team e (s.en e).prob + ((s.en e).whn + 20 * trE s v (s.en e).team (s.en e).prob e) := by
          have : bU s v (s.en e).team e (s.en e).prob = 0 := if_pos k1
          rw [this]; unfold bU; rw [g1, if_neg (by omega), Int.toNat_natCast, g3]; omega
        have s3 : bL s v (s.en e).team (e + 1) (s.en e).prob = (s.en e).whn := by
          unfold bL; rw [g1, if_neg (by omega), Int.toNat_natCast]
        refine ⟨⟨?_, ?_, ?_⟩, fun p hp => ⟨?_, ?_⟩⟩
        · rw [up_b (dD 0 2 (by decide) (by decide) (by decide)), up_b (dD 0 1 (by decide) (by decide) (by decide)), up_s]
          exact (Sg_up 6 (by omega) (fun p _ hq => (oth p (Or.inr hq)).1) s1).symm
        · rw [up_b (dD 1 2 (by decide) (by decide) (by decide)), up_s]
          exact (Sg_up 6 (by omega) (fun p _ hq => (oth p (Or.inr hq)).2.1) s2).symm
        · rw [up_s]
          have := Mx_up (f := bL s v (s.en e).team (e + 1)) (g := bL s v (s.en e).team e) 6 (by omega) (fun p _ hq => (oth p (Or.inr hq)).2.2) s3 (if_pos k1) b3.1 (fun p => (bL_rg hs (by omega) p).1)
          rw [this]
          unfold imax
          by_cases y : (s.en e).whn ≤ Mx (bL s v (s.en e).team e) 6
          · rw [if_pos y, if_neg (by omega)]
          · rw [if_neg y, if_pos (by omega)]
        · rw [up_b (dD 3 2 (by decide) (by decide) (by decide)), up_b (dD 3 1 (by decide) (by decide) (by decide)), up_b (dD 3 0 (by decide) (by decide) (by decide)), up_b (dD 3 4 (by decide) (by decide) (by decide)), g3]
          exact (c4 p hp).1
        · rw [up_b (dD 4 2 (by decide) (by decide) (by decide)), up_b (dD 4 1 (by decide) (by decide) (by decide)), up_b (dD 4 0 (by decide) (by decide) (by decide)), up_apply]
          by_cases y : p = (s.en e).prob
          · rw [if_pos ⟨rfl, by omega⟩, y, s1, k2]; rfl
          · rw [if_neg (fun w => y (by omega)), (oth p (Or.inr y)).1]; exact (c4 p hp).2
      · obtain ⟨⟨d1, d2, d3⟩, d4⟩ := hc t ht2
        refine ⟨⟨?_, ?_, ?_⟩, fun p hp => ⟨?_, ?_⟩⟩
        · rw [up_b (dD 0 2 (by decide) (by decide) (by decide)), up_b (dD 0 1 (by decide) (by decide) (by decide)), up_k _ _ _ _ z, up_b (dD 0 4 (by decide) (by decide) (by decide)), d1]
          exact (Sg_eq 6 (fun p _ => (oth p (Or.inl z)).1)).symm
        · rw [up_b (dD 1 2 (by decide) (by decide) (by decide)), up_k _ _ _ _ z, up_b (dD 1 0 (by decide) (by decide) (by decide)), up_b (dD 1 4 (by decide) (by decide) (by decide)), d2]
          exact (Sg_eq 6 (fun p _ => (oth p (Or.inl z)).2.1)).symm
        · rw [up_k _ _ _ _ z, up_b (dD 2 1 (by decide) (by decide) (by decide)), up_b (dD 2 0 (by decide) (by decide) (by decide)), up_b (dD 2 4 (by decide) (by decide) (by decide)), d3]
          exact (Mx_eq 6 (fun p _ => (oth p (Or.inl z)).2.2)).symm
        · rw [up_b (dD 3 2 (by decide) (by decide) (by decide)), up_b (dD 3 1 (by decide) (by decide) (by decide)), up_b (dD 3 0 (by decide) (by decide) (by decide)), up_b (dD 3 4 (by decide) (by decide) (by decide)), g3]
          exact (d4 p hp).1
        · rw [up_b (dD 4 2 (by decide) (by decide) (by decide)), up_b (dD 4 1 (by decide) (by decide) (by decide)), up_b (dD 4 0 (by decide) (by decide) (by decide)), up_apply, if_neg (fun w => z (by omega)), (oth p (Or.inl z)).1]
          exact (d4 p hp).2
    · rw [if_pos (hr.mpr k3), ck_t (by omega), ck_t (by omega), bnd_e, c5, wr_id (by have := trE_rg (s := s) (v := v) (t := (s.en e).team) (p := (s.en e).prob) e; omega) (by have := trE_rg (s := s) (v := v) (t := (s.en e).team) (p := (s.en e).prob) e; omega)]
      refine ⟨_, rfl, ?_, fU 3 (by decide) _ _ _⟩
      have g1 : ∀ t p, frE s v t p (e + 1) = frE s v t p e := fun t p => frE_o (fun y => k3 y.2.2)
      have g2 : trE s v (s.en e).team (s.en e).prob (e + 1) = trE s v (s.en e).team (s.en e).prob e + 1 := trE_n ⟨k1, rfl, rfl, hv, k3⟩
      have g3 : ∀ t p, ¬ (t = (s.en e).team ∧ p = (s.en e).prob) → trE s v t p (e + 1) = trE s v t p e := fun t p z => trE_o (fun y => z ⟨y.2.1.symm, y.2.2.1.symm⟩)
      have f1 : ∀ t, bS s v t (e + 1) = bS s v t e := fun t => by funext p; unfold bS; rw [g1]
      have f3 : ∀ t, bL s v t (e + 1) = bL s v t e := fun t => by funext p; unfold bL; rw [g1]
      have f2 : ∀ t, bU s v t (e + 1) = bU s v t e := fun t => by
        funext p
        unfold bU
        rw [g1]
        by_cases z : t = (s.en e).team ∧ p = (s.en e).prob
        · rw [z.1, z.2, if_pos k1, if_pos k1]
        · rw [g3 t p z]
      intro t ht2
      obtain ⟨⟨d1, d2, d3⟩, d4⟩ := hc t ht2
      rw [f1, f2, f3]
      refine ⟨⟨?_, ?_, ?_⟩, fun p hp => ⟨?_, ?_⟩⟩
      · rw [up_b (dD 0 3 (by decide) (by decide) (by decide))]; exact d1
      · rw [up_b (dD 1 3 (by decide) (by decide) (by decide))]; exact d2
      · rw [up_b (dD 2 3 (by decide) (by decide) (by decide))]; exact d3
      · rw [up_apply]
        by_cases z : t = (s.en e).team ∧ p = (s.en e).prob
        · rw [if_pos ⟨rfl, by omega⟩, z.1, z.2, g2]
        · rw [if_neg (fun w => z (by omega)), g3 t p z]; exact (d4 p hp).1
      · rw [up_b (dD 4 3 (by decide) (by decide) (by decide))]; exact (d4 p hp).2
  · have k2 : bS s v (s.en e).team e (s.en e).prob = 1 := if_neg k1
    rw [if_neg (by omega)]
    refine ⟨I, rfl, ?_, FrT.rf⟩
    have g1 : ∀ t p, frE s v t p (e + 1) = frE s v t p e := fun t p => by
      by_cases z : t = (s.en e).team ∧ p = (s.en e).prob
      · rw [z.1, z.2]; exact frE_s k1
      · exact frE_o (fun y => z ⟨y.1.symm, y.2.1.symm⟩)
    have g2 : ∀ t p, trE s v t p (e + 1) = trE s v t p e := fun t p => trE_o (fun y => by
      have y2 := y.1
      rw [← y.2.1, ← y.2.2.1] at y2
      exact k1 y2)
    have f1 : ∀ t, bS s v t (e + 1) = bS s v t e := fun t => by funext p; unfold bS; rw [g1]
    have f2 : ∀ t, bU s v t (e + 1) = bU s v t e := fun t => by funext p; unfold bU; rw [g1, g2]
    have f3 : ∀ t, bL s v t (e + 1) = bL s v t e := fun t => by funext p; unfold bL; rw [g1]
    intro t ht2
    rw [f1, f2, f3]
    exact ⟨(hc t ht2).1, fun p hp => by rw [g2]; exact (hc t ht2).2 p hp⟩
end BO1
