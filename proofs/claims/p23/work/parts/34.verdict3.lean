section VE3
variable {tg : Tg} {K : KT} {P : PT} {I : IT} {x m a t i c p en e : Nat} {s : Hl} {ks : List Nat} {b : Pb} {g : Pg}
/-- what giving a verdict leaves -/
def GVd (tg : Tg) (P : PT) (x en e tm : Nat) (g : Pg) (b : Pb) (I I' : IT) : Prop := (I' en 4 = b.vd g ∧ I' en 5 = b.ff g b.nt ∧ I' en 6 = ptsS b.pts (b.grp g) 4 ∧ I' en 7 = b.ver ∧ ∀ j, j < 4 → I' en j = I en j) ∧ (I' (P x 6) tm = wr (I (P x 6) tm + 1) ∧ ∀ j, j ≠ tm → I' (P x 6) j = I (P x 6) j) ∧ FrT tg (fun u => u.1 = 3 ∨ u = (6, e, 0) ∨ u = (8, 0, 6)) I I'
theorem FrT.m3 {I' : IT} (h : FrT tg tgM I I') : FrT tg (fun u => u.1 = 3 ∨ u = (6, e, 0) ∨ u = (8, 0, 6)) I I' := h.mono (fun _ q => Or.inl q)
theorem h_gvEnd {tm : Nat} {I0 : IT} (h : TC tg K P I x en e i p g b) (t6 : tg (P x 6) = (8, 0, 6)) (htm : tm < 8) (e0 : I en 0 = (tm : Int)) (e4 : I en 4 = b.vd g) (e5 : I en 5 = b.ff g b.nt) (ej : ∀ j, j < 4 → I en j = I0 en j) (f0 : FrT tg (fun u => u.1 = 3 ∨ u = (6, e, 0)) I0 I) :
    ∃ I', f_X7_giveVerdict_108 K P I x en (b.msk g b.nt).1 (b.msk g b.nt).2 = some I' ∧ GVd tg P x en e tm g b I0 I' := by
  obtain ⟨h1, h2, h3, t1, q1, q2, q3⟩ := h
  have hp := h_ptsOf (K := K) (P := P) (I := I) (a := p) q3.2.2.2.2.2 h2.2.2.2.2.2 (b.grp g)
  have dn : en ≠ P x 6 := tg_ne t1 t6 (by simp)
  have dp : p ≠ en := tg_ne q3.1.1 t1 (by simp)
  have e6 : I (P x 6) = I0 (P x 6) := f0.at t6 (by simp)
  unfold f_X7_giveVerdict_108
  rw [q2, show ban (b.msk g b.nt).1 (bxo (b.msk g b.nt).2 (-1)) = b.grp g from rfl, hp, bp_s, bnd_e, bnd_e, up_b dp, q3.2.1.2.2.2, up_k _ _ _ _ (by decide), up_k _ _ _ _ (by decide), e0, ck_t (by omega), ck_t (by omega), bnd_e, Int.toNat_natCast, up_b (Ne.symm dn), up_b (Ne.symm dn), e6]
  refine ⟨_, rfl, ⟨?_, ?_, ?_, ?_, fun j hj => ?_⟩, ⟨up_s _ _ _ _, fun j hj => ?_⟩, ?_⟩
  · rw [up_b dn, up_k _ _ _ _ (by decide), up_k _ _ _ _ (by decide)]; exact e4
  · rw [up_b dn, up_k _ _ _ _ (by decide), up_k _ _ _ _ (by decide)]; exact e5
  · rw [up_b dn, up_k _ _ _ _ (by decide), up_s]
  · rw [up_b dn, up_s]
  · rw [up_b dn, up_k _ _ _ _ (by omega), up_k _ _ _ _ (by omega)]; exact ej j hj
  · rw [up_k _ _ _ _ hj, up_b (Ne.symm dn), up_b (Ne.symm dn), e6]
  · refine (f0.mono (fun u q => ?_)).tr ((FrT.up (Or.inr (Or.inl t1))).tr ((FrT.up (Or.inr (Or.inl t1))).tr (FrT.up (Or.inr (Or.inr t6)))))
    rcases q with q | q
    · exact Or.inl q
    · exact Or.inr (Or.inl q)
theorem h_gv_l {tm : Nat} (t6 : tg (P x 6) = (8, 0, 6)) (htm : tm < 8) (I0 : IT) (e00 : I0 en 0 = (tm : Int)) : ∀ (d fuel k : Nat) (I : IT), d < fuel → k + d = b.nt → TC tg K P I x en e i p g b → I en 4 = (if b.ff g k = -1 then 0 else b.tryE g (b.ff g k).toNat) → I en 5 = b.ff g k → (∀ j, j < 4 → I en j = I0 en j) → FrT tg (fun u => u.1 = 3 ∨ u = (6, e, 0)) I0 I →
    ∃ I', f_X7_giveVerdict_26 K P fuel I x en (P p 3) (b.msk g k).1 (b.msk g k).2 (k : Int) = some I' ∧ GVd tg P x en e tm g b I0 I' := by
  intro d
  induction d with
  | zero =>
    intro fuel k I hf hk h e4 e5 ej f0
    obtain ⟨n, rfl⟩ : ∃ n, fuel = n + 1 := ⟨fuel - 1, by omega⟩
    have hk : k = b.nt := hk
    subst hk
    unfold f_X7_giveVerdict_26
    rw [h.2.2.2.2.2.2.2.2.2.1.1, if_pos (by omega)]
    exact h_gvEnd h t6 htm ((ej 0 (by decide)).trans e00) e4 e5 ej f0
  | succ d ih =>
    intro fuel k I hf hk h e4 e5 ej f0
    obtain ⟨n, rfl⟩ : ∃ n, fuel = n + 1 := ⟨fuel - 1, by omega⟩
    have hnt := h.2.1.2.2.2.1
    obtain ⟨I1, u1, u2⟩ := h.try (j := k) (by omega)
    have h1 := h.tm u2
    have t1 := h.2.2.2.1
    have een : I1 en = I en := u2.at t1 (show ¬ 6 = 3 by decide)
    have egr : I1 (elt P (P p 3) k) 2 = (b.tr k).2 := (h1.2.2.2.2.2.2.2.2.2.2.1 k (by omega)).2.2.2
    have f1 : FrT tg (fun u => u.1 = 3 ∨ u = (6, e, 0)) I0 I1 := f0.tr (u2.mono (fun _ q => Or.inl q))
    have em : b.msk g (k + 1) = (bor (b.msk g k).1 (bsl 1 (b.tr k).2), if b.tryE g k = 0 then (b.msk g k).2 else bor (b.msk g k).2 (bsl 1 (b.tr k).2)) := rfl
    have ef : b.ff g (k + 1) = if b.ff g k = -1 then (if b.tryE g k = 0 then -1 else (k : Int)) else b.ff g k := rfl
    unfold f_X7_giveVerdict_26 f_X7_giveVerdict_102
    rw [h.2.2.2.2.2.2.2.2.2.1.1, if_neg (by omega), h.get (by omega), bp_s, u1, bi_s, show wr ((k : Int) + 1) = ((k + 1 : Nat) : Int) by rw [wr_id (by omega) (by omega)]; rfl, egr]
    by_cases c : b.tryE g k = 0
    · rw [if_pos c]
      rw [if_pos c] at em ef
      have ef2 : b.ff g (k + 1) = b.ff g k := by
        rw [ef]
        by_cases z : b.ff g k = -1
        · rw [if_pos z, z]
        · rw [if_neg z]
      have := ih n (k + 1) I1 (by omega) (by omega) h1 (by rw [een, ef2]; exact e4) (by rw [een, ef2]; exact e5) (fun j hj => by rw [een]; exact ej j hj) f1
      rw [em] at this
      exact this
    · rw [if_neg c, een, e5]
      rw [if_neg c] at em ef
      by_cases z : b.ff g k = -1
      · rw [if_pos z] at ef
        rw [if_pos z, bnd_e, bnd_e]
        have h2 : TC tg K P (up (up I1 en 4 (b.tryE g k)) en 5 (k : Int)) x en e i p g b := h1.fr (Q := fun u => u = (6, e, 0)) ((FrT.up t1).tr (FrT.up t1)) (fun _ => by simp) (fun _ => by simp) (fun _ => by simp)
        have := ih n (k + 1) (up (up I1 en 4 (b.tryE g k)) en 5 (k : Int)) (by omega) (by omega) h2 (by rw [up_k _ _ _ _ (by decide), up_s, ef, if_neg (by omega), Int.toNat_natCast]) (by rw [up_s, ef]) (fun j hj => by rw [up_k _ _ _ _ (by omega), up_k _ _ _ _ (by omega), een]; exact ej j hj) (f1.tr ((FrT.up (Or.inr t1)).tr (FrT.up (Or.inr t1))))
        rw [em] at this
        exact this
      · rw [if_neg z] at ef
        rw [if_neg z]
        have := ih n (k + 1) I1 (by omega) (by omega) h1 (by rw [een, ef]; exact e4) (by rw [een, ef]; exact e5) (fun j hj => by rw [een]; exact ej j hj) f1
        rw [em] at this
        exact this
end VE3
