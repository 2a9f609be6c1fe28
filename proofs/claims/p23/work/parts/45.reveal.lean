/-! REVEAL, PLACE ANEW -/
abbrev lhC (s : Hl) (t k : Nat) : Prop := (s.en k).team = t ∧ (s.en k).vd ≠ -1 ∧ hidE s k
/-- the lowest problem of a team that could be revealed -/
def lhE (s : Hl) (t : Nat) : Nat → Int
  | 0 => -1
  | k + 1 => if lhC s t k then (if lhE s t k = -1 then ((s.en k).prob : Int) else if lhE s t k ≤ ((s.en k).prob : Int) then lhE s t k else ((s.en k).prob : Int)) else lhE s t k
/-- whose problem is revealed -/
def lsE (s : Hl) (S U L : Nat → Int) : Nat → Int
  | 0 => -1
  | u + 1 => if lhE s u s.ne = -1 then lsE s S U L u else if lsE s S U L u = -1 then (u : Int) else if ahd S U L (lsE s S U L u).toNat u = 0 then lsE s S U L u else (u : Int)
def lsR (s : Hl) : Int := lsE s (brS s (vT s 1)) (brU s (vT s 1)) (brL s (vT s 1)) 8
def revealS (s : Hl) : Out := if lsR s = -1 then (0, -1, s) else (0, 10 * lsR s + lhE s (lsR s).toNat s.ne, s.sFrz s.frz (updf s.rev (6 * (lsR s).toNat + (lhE s (lsR s).toNat s.ne).toNat) 1))
theorem lhE_rg {s : Hl} (hs : s.ok) {t : Nat} : ∀ k, k ≤ s.ne → lhE s t k = -1 ∨ (0 ≤ lhE s t k ∧ lhE s t k < (s.np : Int))
  | 0, _ => Or.inl rfl
  | k + 1, hk => by
    have h := lhE_rg hs (t := t) k (by omega)
    have hp := (hs.2.2.2.2.2.1 k (by omega)).2.1
    show (if lhC s t k then (if lhE s t k = -1 then ((s.en k).prob : Int) else if lhE s t k ≤ ((s.en k).prob : Int) then lhE s t k else ((s.en k).prob : Int)) else lhE s t k) = -1 ∨ (0 ≤ (if lhC s t k then (if lhE s t k = -1 then ((s.en k).prob : Int) else if lhE s t k ≤ ((s.en k).prob : Int) then lhE s t k else ((s.en k).prob : Int)) else lhE s t k) ∧ (if lhC s t k then (if lhE s t k = -1 then ((s.en k).prob : Int) else if lhE s t k ≤ ((s.en k).prob : Int) then lhE s t k else ((s.en k).prob : Int)) else lhE s t k) < (s.np : Int))
    by_cases c1 : lhC s t k
    · rw [if_pos c1]
      by_cases c2 : lhE s t k = -1
      · rw [if_pos c2]; omega
      · rw [if_neg c2]
        by_cases c3 : lhE s t k ≤ ((s.en k).prob : Int)
        · rw [if_pos c3]; exact h
        · rw [if_neg c3]; omega
    · rw [if_neg c1]; exact h
theorem lsE_rg {s : Hl} {S U L : Nat → Int} : ∀ u, lsE s S U L u = -1 ∨ (0 ≤ lsE s S U L u ∧ lsE s S U L u < (u : Int) ∧ lhE s (lsE s S U L u).toNat s.ne ≠ -1)
  | 0 => Or.inl rfl
  | u + 1 => by
    have h := lsE_rg (s := s) (S := S) (U := U) (L := L) u
    have e : lsE s S U L (u + 1) = if lhE s u s.ne = -1 then lsE s S U L u else if lsE s S U L u = -1 then (u : Int) else if ahd S U L (lsE s S U L u).toNat u = 0 then lsE s S U L u else (u : Int) := rfl
    rw [e]
    have old : lsE s S U L u = -1 ∨ (0 ≤ lsE s S U L u ∧ lsE s S U L u < ((u + 1 : Nat) : Int) ∧ lhE s (lsE s S U L u).toNat s.ne ≠ -1) := by
      rcases h with h | h
      · exact Or.inl h
      · exact Or.inr ⟨h.1, by omega, h.2.2⟩
    by_cases c1 : lhE s u s.ne = -1
    · rw [if_pos c1]; exact old
    · have new : (u : Int) = -1 ∨ (0 ≤ (u : Int) ∧ (u : Int) < ((u + 1 : Nat) : Int) ∧ lhE s (u : Int).toNat s.ne ≠ -1) := Or.inr ⟨by omega, by omega, by rw [Int.toNat_natCast]; exact c1⟩
      rw [if_neg c1]
      by_cases c2 : lsE s S U L u = -1
      · rw [if_pos c2]; exact new
      · rw [if_neg c2]
        by_cases c3 : ahd S U L (lsE s S U L u).toNat u = 0
        · rw [if_pos c3]; exact old
        · rw [if_neg c3]; exact new
theorem revealS_ok {s : Hl} (h : s.ok) : (revealS s).2.2.ok := by
  unfold revealS
  by_cases c : lsR s = -1
  · rw [if_pos c]; exact h
  · rw [if_neg c]
    obtain ⟨h1, h2, h3, h4, h5, h6, h7, h8, h9⟩ := h
    refine ⟨h1, h2, h3, h4, h5, h6, h7, h8, fun k hk => ?_⟩
    show updf s.rev _ 1 k = 0 ∨ updf s.rev _ 1 k = 1
    unfold updf
    split
    · exact Or.inr rfl
    · exact h9 k hk
theorem no_lh {s : Hl} (hf : s.frz = -1) {t : Nat} : ∀ k, lhE s t k = -1
  | 0 => rfl
  | k + 1 => by
    show (if lhC s t k then _ else lhE s t k) = -1
    rw [if_neg (fun z : lhC s t k => z.2.2.1 hf)]
    exact no_lh hf k
theorem no_ls {s : Hl} (hf : s.frz = -1) {S U L : Nat → Int} : ∀ u, lsE s S U L u = -1
  | 0 => rfl
  | u + 1 => by
    show (if lhE s u s.ne = -1 then lsE s S U L u else _) = -1
    rw [if_pos (no_lh hf s.ne)]
    exact no_ls hf u
/-- right or not, judged by the tests that are there now -/
def aN (s : Hl) (e : Nat) : Int := if (s.pb (s.en e).prob).ff (s.en e).prg (s.pb (s.en e).prob).nt = -1 then 0 else 1
def placeAnewS (s : Hl) (t : Int) : Out := if 0 ≤ t ∧ t < 8 then (0, brP s (aN s) t.toNat, s) else (3, 0, s)
theorem placeAnewS_ok {s : Hl} (h : s.ok) {t : Int} : (placeAnewS s t).2.2.ok := by
  unfold placeAnewS
  split <;> exact h
section RV1
variable {tg : Tg} {K : KT} {P : PT} {I : IT} {x m a b i c p e : Nat} {s : Hl} {ks : List Nat} {v : Nat → Int}
theorem h_lh_l {t : Nat} (h : HR tg K P I x s) (hs : s.ok) : ∀ (d fuel k : Nat), d < fuel → k + d = s.ne → f_X7_lowestHidden_4 K P I fuel x t (lhE s t k) (k : Int) = some (lhE s t s.ne) := by
  have hne := hs.2.2.2.2.1
  intro d
  induction d with
  | zero =>
    intro fuel k hf hk
    obtain ⟨n, rfl⟩ : ∃ n, fuel = n + 1 := ⟨fuel - 1, by omega⟩
    have hk : k = s.ne := hk
    unfold f_X7_lowestHidden_4
    rw [h.2.2.2.2.1.2.1.1, if_pos (by omega), hk]
  | succ d ih =>
    intro fuel k hf hk
    obtain ⟨n, rfl⟩ : ∃ n, fuel = n + 1 := ⟨fuel - 1, by omega⟩
    have hkn : k < s.ne := by omega
    obtain ⟨q1, q2, q3, q4⟩ := h.2.2.2.2.1.2.2 k hkn
    have hn := hs.2.2.2.2.2.1 k hkn
    have n1 : I (P (elt P (P x 4) k) 1) 0 = ((s.en k).prob : Int) := by rw [q3]; exact (h.2.2.2.1.2.2 _ hn.2.1).2.1.1
    have ew : wr ((k : Int) + 1) = ((k + 1 : Nat) : Int) := by rw [wr_id (by omega) (by omega)]; rfl
    have ih2 := ih n (k + 1) (by omega) (by omega)
    have e1 : lhE s t (k + 1) = if lhC s t k then (if lhE s t k = -1 then ((s.en k).prob : Int) else if lhE s t k ≤ ((s.en k).prob : Int) then lhE s t k else ((s.en k).prob : Int)) else lhE s t k := rfl
    have pass : ¬ lhC s t k → f_X7_lowestHidden_81 K P (f_X7_lowestHidden_4 K P I n) I x t (lhE s t k) k = some (lhE s t s.ne) := fun z => by
      unfold f_X7_lowestHidden_81
      rw [ew]
      rw [e1, if_neg z] at ih2
      exact ih2
    unfold f_X7_lowestHidden_4
    rw [h.2.2.2.2.1.2.1.1, if_neg (by omega), h_eget h hkn, bp_s, q4.1, h_waits h hkn, n1]
    by_cases c1 : (s.en k).team = t
    · rw [if_pos (by omega), bp_s]
      by_cases c2 : (s.en k).vd = -1
      · rw [if_pos c2, if_neg (by decide)]; exact pass (fun z => z.2.1 c2)
      · rw [if_neg c2, if_pos rfl, h_isHidden h hs hkn, bp_s]
        by_cases c3 : hidE s k
        · rw [if_pos c3, if_neg (by decide)]
          rw [e1, if_pos (show lhC s t k from ⟨c1, c2, c3⟩)] at ih2
          unfold f_X7_lowestHidden_80 f_X7_lowestHidden_81 imin
          rw [ew]
          by_cases c4 : lhE s t k = -1
          · rw [if_pos c4]
            rw [if_pos c4] at ih2
            exact ih2
          · rw [if_neg c4]
            rw [if_neg c4] at ih2
            by_cases c5 : lhE s t k ≤ ((s.en k).prob : Int)
            · rw [if_neg (by omega)]
              rw [if_pos c5] at ih2
              exact ih2
            · rw [if_pos (by omega)]
              rw [if_neg c5] at ih2
              exact ih2
        · rw [if_neg c3, if_pos rfl]; exact pass (fun z => c3 z.2.2)
    · rw [if_neg (by omega)]; exact pass (fun z => c1 z.1)
theorem h_lowestHidden {t : Nat} (h : HR tg K P I x s) (hs : s.ok) : f_X7_lowestHidden K P I x t = some (lhE s t s.ne) := h_lh_l h hs s.ne FU 0 (by have := hs.2.2.2.2.1; unfold FU; omega) (by omega)
theorem h_rev_l {S U L : Nat → Int} (h : HR tg K P I x s) (hs : s.ok) (h3 : St3 P I (P (P x 5) 0) (P (P x 5) 1) (P (P x 5) 2) S U L) : ∀ (d fuel u : Nat), d < fuel → u + d = 8 → f_X7_reveal_19 K P fuel I x (lsE s S U L u) (u : Int) = f_X7_reveal_59 K P I x (lsE s S U L 8) := by
  intro d
  induction d with
  | zero =>
    intro fuel u hf hk
    obtain ⟨n, rfl⟩ : ∃ n, fuel = n + 1 := ⟨fuel - 1, by omega⟩
    obtain rfl : u = 8 := by omega
    unfold f_X7_reveal_19
    rw [if_pos (by decide)]
  | succ d ih =>
    intro fuel u hf hk
    obtain ⟨n, rfl⟩ : ∃ n, fuel = n + 1 := ⟨fuel - 1, by omega⟩
    have ew : wr ((u : Int) + 1) = ((u + 1 : Nat) : Int) := by rw [wr_id (by omega) (by omega)]; rfl
    have ih2 := ih n (u + 1) (by omega) (by omega)
    have e1 : lsE s S U L (u + 1) = if lhE s u s.ne = -1 then lsE s S U L u else if lsE s S U L u = -1 then (u : Int) else if ahd S U L (lsE s S U L u).toNat u = 0 then lsE s S U L u else (u : Int) := rfl
    have hr := lsE_rg (s := s) (S := S) (U := U) (L := L) u
    unfold f_X7_reveal_19 f_X7_reveal_51 f_X7_reveal_53
    rw [if_neg (by omega), h_lowestHidden h hs, bp_s, ew]
    by_cases c1 : lhE s u s.ne = -1
    · rw [if_pos c1]
      rw [e1, if_pos c1] at ih2
      exact ih2
    · rw [if_neg c1]
      rw [e1, if_neg c1] at ih2
      by_cases c2 : lsE s S U L u = -1
      · rw [if_pos c2]
        rw [if_pos c2] at ih2
        exact ih2
      · rw [if_neg c2]
        rw [if_neg c2] at ih2
        have ea := h_isAhead (K := K) h3 (a := (lsE s S U L u).toNat) (b := u) (by omega) (by omega)
        rw [show (((lsE s S U L u).toNat : Nat) : Int) = lsE s S U L u by omega] at ea
        rw [ea, bp_s]
        by_cases c3 : ahd S U L (lsE s S U L u).toNat u = 0
        · rw [if_pos c3]
          rw [if_pos c3] at ih2
          exact ih2
        · rw [if_neg c3]
          rw [if_neg c3] at ih2
          exact ih2
theorem h_reveal (h : HR tg K P I x s) (hs : s.ok) : ∃ I', f_X7_reveal K P I x = some ((revealS s).2.1, I') ∧ HR tg K P I' x (revealS s).2.2 ∧ FrT tg (fun u => u.1 ≤ 10) I I' := by
  have hnp := hs.2.2.1
  unfold f_X7_reveal revealS
  rw [h.1.2.2.2]
  by_cases c0 : s.frz = -1
  · rw [if_pos c0, if_pos (show lsR s = -1 from no_ls c0 8)]
    exact ⟨I, rfl, h, FrT.rf⟩
  · rw [if_neg c0]
    obtain ⟨I1, u1, u2, u3⟩ := h_countVerdicts (K := K) (fz := 1) h hs
    have h1 : HR tg K P I1 x s := h.fr (u3.mono fun u => tg7)
    have f1 : FrT tg (fun u => u.1 ≤ 10) I I1 := u3.mono (fun u q => by show u.1 ≤ 10; rw [q.1]; decide)
    have hl := h_rev_l (K := K) h1 hs u2.st 8 FU 0 (by decide) (by decide)
    rw [u1, bp_s, show f_X7_reveal_19 K P FU I1 x (-1) 0 = _ from hl]
    show ∃ I', f_X7_reveal_59 K P I1 x (lsR s) = _ ∧ _
    unfold f_X7_reveal_59
    by_cases c1 : lsR s = -1
    · rw [if_pos c1, if_pos c1]
      exact ⟨I1, rfl, h1, f1⟩
    · rw [if_neg c1, if_neg c1]
      have hr : lsR s = -1 ∨ (0 ≤ lsR s ∧ lsR s < 8 ∧ lhE s (lsR s).toNat s.ne ≠ -1) := lsE_rg 8
      have hq := lhE_rg hs (t := (lsR s).toNat) s.ne (Nat.le_refl _)
      have el := h_lowestHidden (K := K) (t := (lsR s).toNat) h1 hs
      rw [show (((lsR s).toNat : Nat) : Int) = lsR s by omega] at el
      have ep : wr (wr (lsR s * 6) + lhE s (lsR s).toNat s.ne) = ((6 * (lsR s).toNat + (lhE s (lsR s).toNat s.ne).toNat : Nat) : Int) := by rw [wr_id (x := lsR s * 6) (by omega) (by omega), wr_id (by omega) (by omega)]; omega
      unfold f_X7_pairOf
      rw [el, bp_s, bp_s, ep, ck_t (by omega), bnd_e, Int.toNat_natCast, wr_id (x := 10 * lsR s) (by omega) (by omega), wr_id (by omega) (by omega)]
      have t8 := h1.2.2.2.2.2.1.2.2
      have f8 : FrT tg (fun u => u = (8, 0, 8)) I1 (up I1 (P x 8) (6 * (lsR s).toNat + (lhE s (lsR s).toNat s.ne).toNat) 1) := FrT.up t8
      have a8 := h1.2.2.2.2.2
      refine ⟨_, rfl, ?_, f1.tr (f8.mono (fun u q => by rw [q]; exact (show 8 ≤ 10 by decide)))⟩
      have q2 := h1.ar (rev := updf s.rev (6 * (lsR s).toNat + (lhE s (lsR s).toNat s.ne).toNat) 1) (jud := s.jud) (hck := s.hck) (I' := up I1 (P x 8) (6 * (lsR s).toNat + (lhE s (lsR s).toNat s.ne).toNat) 1) ⟨a8.1, by rw [f8.at a8.1.1 (by simp)]; exact a8.2.1, by rw [f8.at a8.1.2.1 (by simp)]; exact a8.2.2.1, fun k hk => by
        rw [up_apply]
        unfold updf
        by_cases z : k = 6 * (lsR s).toNat + (lhE s (lsR s).toNat s.ne).toNat
        · rw [if_pos ⟨rfl, z⟩, if_pos z]
        · rw [if_neg (fun y => z y.2), if_neg z]; exact a8.2.2.2 k hk⟩ (f8.mono (fun u q => by rw [q]))
      exact q2
-- placeAnew
theorem h_pan_l {t : Nat} (ht : t < 8) (hs : s.ok) : ∀ (d fuel k : Nat) (I : IT), d < fuel → k + d = s.ne → HR tg K P I x s → CS s (aN s) k P I (P x 5) → ∃ I', f_X7_placeAnew_15 K P fuel I x t (k : Int) = some (0, brP s (aN s) t, I') ∧ FrT tg (fun u => u.1 = 3 ∨ u.1 = 7) I I' := by
  have hne := hs.2.2.2.2.1
  intro d
  induction d with
  | zero =>
    intro fuel k I hf hk h hc
    obtain ⟨n, rfl⟩ : ∃ n, fuel = n + 1 := ⟨fuel - 1, by omega⟩
    have hk : k = s.ne := hk
    rw [hk] at hc
    unfold f_X7_placeAnew_15 f_X7_placeAnew_57
    rw [h.2.2.2.2.1.2.1.1, if_pos (by omega), h_placeOf hc.st ht, bp_s]
    exact ⟨I, rfl, FrT.rf⟩
  | succ d ih =>
    intro fuel k I hf hk h hc
    obtain ⟨n, rfl⟩ : ∃ n, fuel = n + 1 := ⟨fuel - 1, by omega⟩
    have hkn : k < s.ne := by omega
    obtain ⟨I1, u1, u2⟩ := h_passesAll (K := K) (h.tc hs hkn)
    have h1 : HR tg K P I1 x s := h.fr (u2.mono fun u => tgM_scr)
    have tk := h.2.1.2.1.2
    have hc1 : CS s (aN s) k P I1 (P x 5) := hc.fr (fun q hq => u2.at (tk q hq) (show ¬ 7 = 3 by decide))
    have hv : aN s k ≠ -1 := by unfold aN; split <;> decide
    obtain ⟨I2, v1, v2, v3⟩ := h_count (K := K) (r := if (s.pb (s.en k).prob).ff (s.en k).prg (s.pb (s.en k).prob).nt = -1 then 1 else 0) h1 hs hkn hc1 hv (by
      unfold aN
      by_cases z : (s.pb (s.en k).prob).ff (s.en k).prg (s.pb (s.en k).prob).nt = -1
      · rw [if_pos z, if_pos z]; decide
      · rw [if_neg z, if_neg z]; decide)
    obtain ⟨I', k1, k2⟩ := ih n (k + 1) I2 (by omega) (by omega) (h1.fr (v3.mono fun u => tg7)) v2
    unfold f_X7_placeAnew_15
    rw [h.2.2.2.2.1.2.1.1, if_neg (by omega), h_eget h hkn, bp_s, u1, bi_s, v1, bp_s, show wr ((k : Int) + 1) = ((k + 1 : Nat) : Int) by rw [wr_id (by omega) (by omega)]; rfl]
    exact ⟨I', k1, (u2.mono (fun u q => Or.inl q)).tr ((v3.mono (fun u q => Or.inr q.1)).tr k2)⟩
theorem h_placeAnew {t : Int} (h : HR tg K P I x s) (hs : s.ok) : HOut tg K P x I (f_X7_placeAnew K P I x t) (placeAnewS s t) := by
  have hne := hs.2.2.2.2.1
  unfold f_X7_placeAnew placeAnewS
  rw [n_index]
  by_cases c1 : 0 ≤ t ∧ t < 8
  · rw [if_pos c1, if_pos c1, bx_0]
    obtain ⟨I1, u1, u2, u3⟩ := h_wipe (K := K) (I := I) (s := s) (v := aN s) h.2.1
    obtain ⟨I', k1, k2⟩ := h_pan_l (K := K) (t := t.toNat) (by omega) hs s.ne FU 0 I1 (by unfold FU; omega) (by omega) (h.fr (u3.mono fun u => tg7)) u2
    rw [show ((t.toNat : Nat) : Int) = t by omega] at k1
    have f : FrT tg (fun u => u.1 = 3 ∨ u.1 = 7) I I' := (u3.mono (fun u q => Or.inr q.1)).tr k2
    rw [u1, bp_s]
    exact ⟨_, I', k1, fun _ => rfl, h.fr (f.mono (fun u q => by
      rcases q with q | q
      · exact Or.inl q
      · exact Or.inr (Or.inl q))), f.mono (fun u q => by show u.1 ≤ 10; omega)⟩
  · rw [if_neg c1, if_neg c1, bx_s (by decide)]
    exact HOut.same (by decide) h rfl
end RV1
