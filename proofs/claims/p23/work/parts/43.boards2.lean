section BO2
variable {tg : Tg} {K : KT} {P : PT} {I : IT} {x m a b t i c p e : Nat} {s : Hl} {ks : List Nat} {v : Nat → Int}
theorem fil8_l : ∀ (d fuel k : Nat) (I : IT), d < fuel → k + d = 8 → ∃ I', f_J7_fill_132_5 K P fuel I a 0 (k : Int) 8 = some I' ∧ zer a 8 k I I' := by
  intro d
  induction d with
  | zero =>
    intro fuel k I hf hk
    obtain ⟨n, rfl⟩ : ∃ n, fuel = n + 1 := ⟨fuel - 1, by omega⟩
    unfold f_J7_fill_132_5
    rw [if_pos (by omega)]
    exact ⟨I, rfl, zer.rf (by omega)⟩
  | succ d ih =>
    intro fuel k I hf hk
    obtain ⟨n, rfl⟩ : ∃ n, fuel = n + 1 := ⟨fuel - 1, by omega⟩
    unfold f_J7_fill_132_5
    rw [if_neg (by omega), ck_t (by omega), bnd_e, Int.toNat_natCast, show wr ((k : Int) + 1) = ((k + 1 : Nat) : Int) by rw [wr_id (by omega) (by omega)]; rfl]
    obtain ⟨I', u1, u2⟩ := ih n (k + 1) (up I a k 0) (by omega) (by omega)
    exact ⟨I', u1, u2.st (by omega)⟩
theorem fil48_l : ∀ (d fuel k : Nat) (I : IT), d < fuel → k + d = 48 → ∃ I', f_J7_fill_292_5 K P fuel I a 0 (k : Int) 48 = some I' ∧ zer a 48 k I I' := by
  intro d
  induction d with
  | zero =>
    intro fuel k I hf hk
    obtain ⟨n, rfl⟩ : ∃ n, fuel = n + 1 := ⟨fuel - 1, by omega⟩
    unfold f_J7_fill_292_5
    rw [if_pos (by omega)]
    exact ⟨I, rfl, zer.rf (by omega)⟩
  | succ d ih =>
    intro fuel k I hf hk
    obtain ⟨n, rfl⟩ : ∃ n, fuel = n + 1 := ⟨fuel - 1, by omega⟩
    unfold f_J7_fill_292_5
    rw [if_neg (by omega), ck_t (by omega), bnd_e, Int.toNat_natCast, show wr ((k : Int) + 1) = ((k + 1 : Nat) : Int) by rw [wr_id (by omega) (by omega)]; rfl]
    obtain ⟨I', u1, u2⟩ := ih n (k + 1) (up I a k 0) (by omega) (by omega)
    exact ⟨I', u1, u2.st (by omega)⟩
theorem fil17_l : ∀ (d fuel k : Nat) (I : IT), d < fuel → k + d = 17 → ∃ I', f_J7_fill_168_5 K P fuel I a 0 (k : Int) 17 = some I' ∧ zer a 17 k I I' := by
  intro d
  induction d with
  | zero =>
    intro fuel k I hf hk
    obtain ⟨n, rfl⟩ : ∃ n, fuel = n + 1 := ⟨fuel - 1, by omega⟩
    unfold f_J7_fill_168_5
    rw [if_pos (by omega)]
    exact ⟨I, rfl, zer.rf (by omega)⟩
  | succ d ih =>
    intro fuel k I hf hk
    obtain ⟨n, rfl⟩ : ∃ n, fuel = n + 1 := ⟨fuel - 1, by omega⟩
    unfold f_J7_fill_168_5
    rw [if_neg (by omega), ck_t (by omega), bnd_e, Int.toNat_natCast, show wr ((k : Int) + 1) = ((k + 1 : Nat) : Int) by rw [wr_id (by omega) (by omega)]; rfl]
    obtain ⟨I', u1, u2⟩ := ih n (k + 1) (up I a k 0) (by omega) (by omega)
    exact ⟨I', u1, u2.st (by omega)⟩
theorem wip_l : ∀ (d fuel k : Nat) (I : IT), d < fuel → k + d = 48 → ∃ I', f_X5_wipe_34 K P fuel I a (k : Int) = some I' ∧ zer (P a 4) 48 k I I' := by
  intro d
  induction d with
  | zero =>
    intro fuel k I hf hk
    obtain ⟨n, rfl⟩ : ∃ n, fuel = n + 1 := ⟨fuel - 1, by omega⟩
    unfold f_X5_wipe_34
    rw [if_pos (by omega)]
    exact ⟨I, rfl, zer.rf (by omega)⟩
  | succ d ih =>
    intro fuel k I hf hk
    obtain ⟨n, rfl⟩ : ∃ n, fuel = n + 1 := ⟨fuel - 1, by omega⟩
    unfold f_X5_wipe_34
    rw [if_neg (by omega), ck_t (by omega), bnd_e, Int.toNat_natCast, show wr ((k : Int) + 1) = ((k + 1 : Nat) : Int) by rw [wr_id (by omega) (by omega)]; rfl]
    obtain ⟨I', u1, u2⟩ := ih n (k + 1) (up I (P a 4) k 0) (by omega) (by omega)
    exact ⟨I', u1, u2.st (by omega)⟩
theorem zer.ft {n k : Nat} {I' : IT} {Q : Nat × Nat × Nat → Prop} (h : zer a n k I I') (hq : Q (tg a)) : FrT tg Q I I' := fun q hq2 => h.2.2 q (fun z => hq2 (by rw [z]; exact hq))
/-- the standings are wiped -/
theorem h_wipe (h : HRs tg P x) : ∃ I', f_X5_wipe K P I (P x 5) = some I' ∧ CS s v 0 P I' (P x 5) ∧ FrT tg (fun u => u.1 = 7 ∧ u.2.2 ≠ 0) I I' := by
  obtain ⟨t5, tk⟩ := h.2.1
  have dD : ∀ k j, k < 5 → j < 5 → k ≠ j → P (P x 5) k ≠ P (P x 5) j := fun k j hk hj hkj => tg_ne (tk k hk) (tk j hj) (by simp [hkj])
  have tq : ∀ k, k < 5 → (tg (P (P x 5) k)).1 = 7 ∧ (tg (P (P x 5) k)).2.2 ≠ 0 := fun k hk => by rw [tk k hk]; exact ⟨rfl, Nat.succ_ne_zero _⟩
  obtain ⟨I1, u1, u2⟩ := fil8_l (K := K) (P := P) (a := P (P x 5) 0) 8 FU 0 I (by decide) (by decide)
  obtain ⟨I2, v1, v2⟩ := fil8_l (K := K) (P := P) (a := P (P x 5) 1) 8 FU 0 I1 (by decide) (by decide)
  obtain ⟨I3, w1, w2⟩ := fil8_l (K := K) (P := P) (a := P (P x 5) 2) 8 FU 0 I2 (by decide) (by decide)
  obtain ⟨I4, y1, y2⟩ := fil48_l (K := K) (P := P) (a := P (P x 5) 3) 48 FU 0 I3 (by decide) (by decide)
  obtain ⟨I5, z1, z2⟩ := wip_l (K := K) (P := P) (a := P x 5) 48 FU 0 I4 (by decide) (by decide)
  unfold f_X5_wipe f_J7_fill_132 f_J7_fill_292
  rw [show f_J7_fill_132_5 K P FU I (P (P x 5) 0) 0 0 8 = _ from u1, bp_s, show f_J7_fill_132_5 K P FU I1 (P (P x 5) 1) 0 0 8 = _ from v1, bp_s, show f_J7_fill_132_5 K P FU I2 (P (P x 5) 2) 0 0 8 = _ from w1, bp_s, show f_J7_fill_292_5 K P FU I3 (P (P x 5) 3) 0 0 48 = _ from y1, bp_s]
  refine ⟨I5, z1, ?_, (u2.ft (tq 0 (by decide))).tr ((v2.ft (tq 1 (by decide))).tr ((w2.ft (tq 2 (by decide))).tr ((y2.ft (tq 3 (by decide))).tr (z2.ft (tq 4 (by decide))))))⟩
  have s0 : ∀ f : Nat → Int, (∀ p, f p = 0) → Sg f 6 = 0 ∧ Mx f 6 = 0 := fun f hf => by
    have e : f = fun _ => 0 := funext hf
    rw [e]
    exact ⟨by decide, by decide⟩
  intro t ht
  refine ⟨⟨?_, ?_, ?_⟩, fun p hp => ⟨?_, ?_⟩⟩
  · rw [z2.2.2 _ (dD 0 4 (by decide) (by decide) (by decide)), y2.2.2 _ (dD 0 3 (by decide) (by decide) (by decide)), w2.2.2 _ (dD 0 2 (by decide) (by decide) (by decide)), v2.2.2 _ (dD 0 1 (by decide) (by decide) (by decide)), u2.1 t (Nat.zero_le _) ht]
    exact (s0 _ (fun p => if_pos rfl)).1.symm
  · rw [z2.2.2 _ (dD 1 4 (by decide) (by decide) (by decide)), y2.2.2 _ (dD 1 3 (by decide) (by decide) (by decide)), w2.2.2 _ (dD 1 2 (by decide) (by decide) (by decide)), v2.1 t (Nat.zero_le _) ht]
    exact (s0 _ (fun p => if_pos rfl)).1.symm
  · rw [z2.2.2 _ (dD 2 4 (by decide) (by decide) (by decide)), y2.2.2 _ (dD 2 3 (by decide) (by decide) (by decide)), w2.1 t (Nat.zero_le _) ht]
    exact (s0 _ (fun p => if_pos rfl)).2.symm
  · rw [z2.2.2 _ (dD 3 4 (by decide) (by decide) (by decide)), y2.1 _ (Nat.zero_le _) (by omega)]; rfl
  · rw [z2.1 _ (Nat.zero_le _) (by omega)]; rfl
abbrev hidE (s : Hl) (e : Nat) : Prop := s.frz ≠ -1 ∧ s.frz ≤ (s.en e).whn ∧ s.rev (6 * (s.en e).team + (s.en e).prob) = 0
def vT (s : Hl) (fz : Int) (e : Nat) : Int := if fz ≠ 0 ∧ hidE s e then -1 else (s.en e).vd
theorem h_isHidden (h : HR tg K P I x s) (hs : s.ok) (he : e < s.ne) : f_X7_isHidden K P I x (elt P (P x 4) e) = some (if hidE s e then 1 else 0) := by
  obtain ⟨q1, q2, q3, q4⟩ := h.2.2.2.2.1.2.2 e he
  have hn := hs.2.2.2.2.2.1 e he
  have hnp := hs.2.2.1
  have n1 : I (P (elt P (P x 4) e) 1) 0 = ((s.en e).prob : Int) := by rw [q3]; exact (h.2.2.2.1.2.2 _ hn.2.1).2.1.1
  have ht := hn.1
  have hp := hn.2.1
  have ep : wr (wr (((s.en e).team : Int) * 6) + ((s.en e).prob : Int)) = ((6 * (s.en e).team + (s.en e).prob : Nat) : Int) := by rw [wr_id (x := ((s.en e).team : Int) * 6) (by omega) (by omega), wr_id (by omega) (by omega)]; omega
  have r48 := hs.2.2.2.2.2.2.2.2 (6 * (s.en e).team + (s.en e).prob) (by omega)
  unfold f_X7_isHidden f_X7_isLate f_X7_pairOf
  rw [h.1.2.2.2, q4.2.1, q4.1, n1]
  by_cases c1 : s.frz = -1
  · rw [if_pos c1, bp_s, if_pos rfl, if_neg (fun z : hidE s e => z.1 c1)]
  · rw [if_neg c1]
    by_cases c2 : (s.en e).whn < s.frz
    · rw [if_pos c2, bp_s, if_pos rfl, if_neg (fun z : hidE s e => by have := z.2.1; omega)]
    · rw [if_neg c2, bp_s, if_neg (by decide), bp_s, ep, ck_t (by omega), Int.toNat_natCast, h.2.2.2.2.2.2.2.2 _ (by omega)]
      by_cases c3 : s.rev (6 * (s.en e).team + (s.en e).prob) = 0
      · rw [if_pos c3, if_pos (show hidE s e from ⟨c1, by omega, c3⟩)]
      · rw [if_neg c3, if_neg (fun z : hidE s e => c3 z.2.2)]
theorem tg7 {u : Nat × Nat × Nat} (h : u.1 = 7 ∧ u.2.2 ≠ 0) : scr u := Or.inr (Or.inl h.1)
theorem h_cv_l {fz : Int} (hs : s.ok) : ∀ (d fuel k : Nat) (I : IT), d < fuel → k + d = s.ne → HR tg K P I x s → CS s (vT s fz) k P I (P x 5) → ∃ I', f_X7_countVerdicts_9 K P fuel I x fz (k : Int) = some I' ∧ CS s (vT s fz) s.ne P I' (P x 5) ∧ FrT tg (fun u => u.1 = 7 ∧ u.2.2 ≠ 0) I I' := by
  have hne := hs.2.2.2.2.1
  intro d
  induction d with
  | zero =>
    intro fuel k I hf hk h hc
    obtain ⟨n, rfl⟩ : ∃ n, fuel = n + 1 := ⟨fuel - 1, by omega⟩
    have hk : k = s.ne := hk
    unfold f_X7_countVerdicts_9
    rw [h.2.2.2.2.1.2.1.1, if_pos (by omega)]
    rw [hk] at hc
    exact ⟨I, rfl, hc, FrT.rf⟩
  | succ d ih =>
    intro fuel k I hf hk h hc
    obtain ⟨n, rfl⟩ : ∃ n, fuel = n + 1 := ⟨fuel - 1, by omega⟩
    have hkn : k < s.ne := by omega
    have ew : wr ((k : Int) + 1) = ((k + 1 : Nat) : Int) := by rw [wr_id (by omega) (by omega)]; rfl
    have skip : vT s fz k = -1 → ∃ I', f_X7_countVerdicts_71 K P (f_X7_countVerdicts_9 K P n) I x fz k = some I' ∧ CS s (vT s fz) s.ne P I' (P x 5) ∧ FrT tg (fun u => u.1 = 7 ∧ u.2.2 ≠ 0) I I' := fun z => by
      unfold f_X7_countVerdicts_71
      rw [ew]
      exact ih n (k + 1) I (by omega) (by omega) h (hc.skip z)
    have vd4 : I (elt P (P x 4) k) 4 = (s.en k).vd := (h.2.2.2.2.1.2.2 k hkn).2.2.2.2.2.1
    have take : (s.en k).vd ≠ -1 → vT s fz k = (s.en k).vd → ∃ I', f_X7_countVerdicts_51 K P (f_X7_countVerdicts_9 K P n) I x fz k (elt P (P x 4) k) = some I' ∧ CS s (vT s fz) s.ne P I' (P x 5) ∧ FrT tg (fun u => u.1 = 7 ∧ u.2.2 ≠ 0) I I' := fun z1 z2 => by
      have key : ∀ r : Int, (r = 0 ↔ vT s fz k ≠ 0) → ∃ I', f_X7_countVerdicts_68 K P (f_X7_countVerdicts_9 K P n) I x fz k r (elt P (P x 4) k) (P x 5) = some I' ∧ CS s (vT s fz) s.ne P I' (P x 5) ∧ FrT tg (fun u => u.1 = 7 ∧ u.2.2 ≠ 0) I I' := fun r hr => by
        obtain ⟨I1, u1, u2, u3⟩ := h_count (K := K) h hs hkn hc (by rw [z2]; exact z1) hr
        obtain ⟨I', k1, k2, k3⟩ := ih n (k + 1) I1 (by omega) (by omega) (h.fr (u3.mono fun u => tg7)) u2
        unfold f_X7_countVerdicts_68 f_X7_countVerdicts_71
        rw [u1, bp_s, ew]
        exact ⟨I', k1, k2, u3.tr k3⟩
      unfold f_X7_countVerdicts_51
      rw [vd4]
      by_cases c : (s.en k).vd = 0
      · rw [if_pos c]; exact key 1 ⟨fun y => absurd y (by decide), fun y => absurd (z2.trans c) y⟩
      · rw [if_neg c]; exact key 0 ⟨fun _ => by rw [z2]; exact c, fun _ => rfl⟩
    unfold f_X7_countVerdicts_9
    rw [h.2.2.2.2.1.2.1.1, if_neg (by omega), h_eget h hkn, bp_s, h_waits h hkn, bp_s]
    by_cases c1 : (s.en k).vd = -1
    · rw [if_pos c1, if_neg (by decide)]
      refine skip ?_
      unfold vT
      split
      · rfl
      · exact c1
    · rw [if_neg c1, if_pos rfl]
      by_cases c2 : fz = 0
      · rw [if_pos c2]
        exact take c1 (if_neg (fun z => z.1 c2))
      · rw [if_neg c2, h_isHidden h hs hkn, bp_s]
        by_cases c3 : hidE s k
        · rw [if_pos c3, if_neg (by decide)]
          exact skip (if_pos ⟨c2, c3⟩)
        · rw [if_neg c3, if_pos rfl]
          exact take c1 (if_neg (fun z => c3 z.2))
theorem h_countVerdicts {fz : Int} (h : HR tg K P I x s) (hs : s.ok) : ∃ I', f_X7_countVerdicts K P I x fz = some I' ∧ CS s (vT s fz) s.ne P I' (P x 5) ∧ FrT tg (fun u => u.1 = 7 ∧ u.2.2 ≠ 0) I I' := by
  have hne := hs.2.2.2.2.1
  obtain ⟨I1, u1, u2, u3⟩ := h_wipe (K := K) (I := I) (s := s) (v := vT s fz) h.2.1
  obtain ⟨I', k1, k2, k3⟩ := h_cv_l (K := K) (fz := fz) hs s.ne FU 0 I1 (by unfold FU; omega) (by omega) (h.fr (u3.mono fun u => tg7)) u2
  unfold f_X7_countVerdicts
  rw [u1, bp_s]
  exact ⟨I', k1, k2, u3.tr k3⟩
/-- who is ahead -/
def ahd (S U L : Nat → Int) (a b : Nat) : Int := if S a = S b then (if U a = U b then (if L a = L b then (if b ≤ a then 0 else 1) else if L b ≤ L a then 0 else 1) else if U b ≤ U a then 0 else 1) else if S a ≤ S b then 0 else 1
def plc (S U L : Nat → Int) (t : Nat) : Nat → Int
  | 0 => 0
  | k + 1 => plc S U L t k + ahd S U L k t
theorem ahd01 {S U L : Nat → Int} {a b : Nat} : ahd S U L a b = 0 ∨ ahd S U L a b = 1 := by
  unfold ahd
  repeat' split
  all_goals first | exact Or.inl rfl | exact Or.inr rfl
theorem ahd_rf {S U L : Nat → Int} {a : Nat} : ahd S U L a a = 0 := by
  unfold ahd
  rw [if_pos rfl, if_pos rfl, if_pos rfl, if_pos (Nat.le_refl _)]
theorem plc_rg {S U L : Nat → Int} {t : Nat} : ∀ k, 0 ≤ plc S U L t k ∧ plc S U L t k ≤ (k : Int)
  | 0 => ⟨Int.le_refl _, Int.le_refl _⟩
  | k + 1 => by
    have h1 := plc_rg (S := S) (U := U) (L := L) (t := t) k
    have h2 := ahd01 (S := S) (U := U) (L := L) (a := k) (b := t)
    show 0 ≤ plc S U L t k + ahd S U L k t ∧ plc S U L t k + ahd S U L k t ≤ ((k + 1 : Nat) : Int)
    omega
def St3 (P : PT) (I : IT) (a1 a2 a3 : Nat) (S U L : Nat → Int) : Prop := ∀ t, t < 8 → I a1 t = S t ∧ I a2 t = U t ∧ I a3 t = L t
theorem h_isAhead {S U L : Nat → Int} {st a b : Nat} (h : St3 P I (P st 0) (P st 1) (P st 2) S U L) (ha : a < 8) (hb : b < 8) : f_X5_isAhead K P I st a b = some (ahd S U L a b) := by
  obtain ⟨a1, a2, a3⟩ := h a ha
  obtain ⟨b1, b2, b3⟩ := h b hb
  have ca : ∀ {α : Type} {z : Option α}, ck (0 ≤ (a : Int) ∧ (a : Int) < 8) z = z := fun {α} {z} => ck_t (by omega)
  have cb : ∀ {α : Type} {z : Option α}, ck (0 ≤ (b : Int) ∧ (b : Int) < 8) z = z := fun {α} {z} => ck_t (by omega)
  unfold f_X5_isAhead ahd
  simp only [ca, cb]
  rw [Int.toNat_natCast, Int.toNat_natCast, a1, a2, a3, b1, b2, b3]
  by_cases c1 : S a = S b
  · rw [if_pos c1, if_pos c1]
    by_cases c2 : U a = U b
    · rw [if_pos c2, if_pos c2]
      by_cases c3 : L a = L b
      · rw [if_pos c3, if_pos c3]
        by_cases c4 : b ≤ a
        · rw [if_pos (by omega), if_pos c4]
        · rw [if_neg (by omega), if_neg c4]
      · rw [if_neg c3, if_neg c3]
        by_cases c4 : L b ≤ L a
        · rw [if_pos c4, if_pos c4]
        · rw [if_neg c4, if_neg c4]
    · rw [if_neg c2, if_neg c2]
      by_cases c4 : U b ≤ U a
      · rw [if_pos c4, if_pos c4]
      · rw [if_neg c4, if_neg c4]
  · rw [if_neg c1, if_neg c1]
    by_cases c4 : S a ≤ S b
    · rw [if_pos c4, if_pos c4]
    · rw [if_neg c4, if_neg c4]
theorem h_plc_l {S U L : Nat → Int} {st t : Nat} (h : St3 P I (P st 0) (P st 1) (P st 2) S U L) (ht : t < 8) : ∀ (d fuel k : Nat), d < fuel → k + d = 8 → f_X5_placeOf_4 K P I fuel st t (plc S U L t k) (k : Int) = some (plc S U L t 8) := by
  intro d
  induction d with
  | zero =>
    intro fuel k hf hk
    obtain ⟨n, rfl⟩ : ∃ n, fuel = n + 1 := ⟨fuel - 1, by omega⟩
    obtain rfl : k = 8 := by omega
    unfold f_X5_placeOf_4
    rw [if_pos (by decide)]
  | succ d ih =>
    intro fuel k hf hk
    obtain ⟨n, rfl⟩ : ∃ n, fuel = n + 1 := ⟨fuel - 1, by omega⟩
    have h1 := plc_rg (S := S) (U := U) (L := L) (t := t) k
    have e1 : plc S U L t (k + 1) = plc S U L t k + ahd S U L k t := rfl
    have ih2 := ih n (k + 1) (by omega) (by omega)
    unfold f_X5_placeOf_4 f_X5_placeOf_22
    rw [if_neg (by omega), h_isAhead h (by omega) ht, bp_s, show wr ((k : Int) + 1) = ((k + 1 : Nat) : Int) by rw [wr_id (by omega) (by omega)]; rfl, wr_id (x := plc S U L t k + 1) (by omega) (by omega)]
    rcases ahd01 (S := S) (U := U) (L := L) (a := k) (b := t) with z | z
    · rw [if_pos z]
      rw [e1, z, Int.add_zero] at ih2
      exact ih2
    · rw [if_neg (by omega)]
      rw [e1, z] at ih2
      exact ih2
theorem h_placeOf {S U L : Nat → Int} {st t : Nat} (h : St3 P I (P st 0) (P st 1) (P st 2) S U L) (ht : t < 8) : f_X5_placeOf K P I st t = some (plc S U L t 8) := h_plc_l h ht 8 FU 0 (by decide) (by decide)
/-- a board: solved, sums, latest -/
def brS (s : Hl) (v : Nat → Int) (t : Nat) : Int := Sg (bS s v t s.ne) 6
def brU (s : Hl) (v : Nat → Int) (t : Nat) : Int := Sg (bU s v t s.ne) 6
def brL (s : Hl) (v : Nat → Int) (t : Nat) : Int := Mx (bL s v t s.ne) 6
def brP (s : Hl) (v : Nat → Int) (t : Nat) : Int := plc (brS s v) (brU s v) (brL s v) t 8
theorem CS.st {st : Nat} (h : CS s v s.ne P I st) : St3 P I (P st 0) (P st 1) (P st 2) (brS s v) (brU s v) (brL s v) := fun t ht => (h t ht).1
def boardS (s : Hl) (t fz w : Int) : Out := if 0 ≤ t ∧ t < 8 then (if 0 ≤ w ∧ w ≤ 4 then (0, (if w = 4 then s.hck t.toNat else if w = 0 then brP s (vT s fz) t.toNat else if w = 1 then brS s (vT s fz) t.toNat else if w = 2 then brU s (vT s fz) t.toNat else brL s (vT s fz) t.toNat), s) else (1, 0, s)) else (3, 0, s)
theorem boardS_ok (h : s.ok) {t fz w : Int} : (boardS s t fz w).2.2.ok := by
  unfold boardS
  split
  · split <;> exact h
  · exact h
theorem h_board {t fz w : Int} (h : HR tg K P I x s) (hs : s.ok) : HOut tg K P x I (f_X7_board K P I x t fz w) (boardS s t fz w) := by
  unfold f_X7_board boardS
  rw [n_index]
  by_cases c1 : 0 ≤ t ∧ t < 8
  · have c1' : 0 ≤ t ∧ t < (8 : Int) := c1
    rw [if_pos c1, if_pos c1, bx_0, n_range]
    by_cases c2 : 0 ≤ w ∧ w ≤ 4
    · rw [if_pos c2, if_pos c2, bx_0]
      by_cases c3 : w = 4
      · rw [if_pos c3, if_pos c3, ck_t c1]
        exact ⟨_, I, rfl, fun _ => h.2.2.2.2.2.2.2.1 _ (by omega), h, FrT.rf⟩
      · rw [if_neg c3, if_neg c3]
        obtain ⟨I', k1, k2, k3⟩ := h_countVerdicts (K := K) (fz := fz) h hs
        have e : t = ((t.toNat : Nat) : Int) := by omega
        rw [k1, bp_s]
        refine ⟨_, I', ?_, fun _ => rfl, h.fr (k3.mono fun u => tg7), k3.mono (fun u q => by show u.1 ≤ 10; rw [q.1]; decide)⟩
        have k4 := k2.st t.toNat (by omega)
        have k5 := h_placeOf (K := K) k2.st (t := t.toNat) (by omega)
        rw [← e] at k5
        by_cases w0 : w = 0
        · rw [if_pos w0, if_pos w0, k5, bp_s]; rfl
        rw [if_neg w0, if_neg w0]
        by_cases w1 : w = 1
        · rw [if_pos w1, if_pos w1, ck_t c1, k4.1]
        rw [if_neg w1, if_neg w1]
        by_cases w2 : w = 2
        · rw [if_pos w2, if_pos w2, ck_t c1, k4.2.1]
        rw [if_neg w2, if_neg w2, ck_t c1, k4.2.2]
    · rw [if_neg c2, if_neg c2, bx_s (by decide)]
      exact HOut.same (by decide) h rfl
  · rw [if_neg c1, if_neg c1, bx_s (by decide)]
    exact HOut.same (by decide) h rfl
end BO2
