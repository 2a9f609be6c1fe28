section VE2
variable {tg : Tg} {K : KT} {P : PT} {I : IT} {x m a t i c p en e : Nat} {s : Hl} {ks : List Nat} {b : Pb} {g : Pg}
/-- what trying an entry's program needs to find -/
def TC (tg : Tg) (K : KT) (P : PT) (I : IT) (x en e i p : Nat) (g : Pg) (b : Pb) : Prop := HRs tg P x ∧ b.ok ∧ g.ok ∧ tg en = (6, e, 0) ∧ PgR tg P I (P en 3) 6 e 1 g ∧ P en 1 = p ∧ PbR tg K P I i p b
theorem TC.fr {I' : IT} {Q : Nat × Nat × Nat → Prop} (h : TC tg K P I x en e i p g b) (hf : FrT tg Q I I') (h6 : ∀ k, ¬ Q (6, e, k + 1)) (h4 : ∀ k, ¬ Q (4, i, k)) (h5 : ∀ k, ¬ Q (5, i, k)) : TC tg K P I' x en e i p g b := by
  obtain ⟨h1, h2, h3, t1, q1, q2, q3⟩ := h
  exact ⟨h1, h2, h3, t1, ⟨q1.1, q1.2.fr (hf.at q1.1.1 (h6 0)) (hf.at q1.1.2.1 (h6 1)) (hf.at q1.1.2.2 (h6 2))⟩, q2, q3.fr hf h4 h5⟩
theorem TC.tm {I' : IT} (h : TC tg K P I x en e i p g b) (hf : FrT tg tgM I I') : TC tg K P I' x en e i p g b := h.fr hf (fun _ => show ¬ 6 = 3 by decide) (fun _ => show ¬ 4 = 3 by decide) (fun _ => show ¬ 5 = 3 by decide)
theorem TC.try {j : Nat} (h : TC tg K P I x en e i p g b) (hj : j < b.nt) : ∃ I', f_X7_tryOut K P I x en (elt P (P p 3) j) = some (b.tryE g j, I') ∧ FrT tg tgM I I' := by
  obtain ⟨h1, h2, h3, t1, q1, q2, q3⟩ := h
  have hj2 := h2.2.2.2.2.1 j hj
  exact h_try (n := mkEn 0 0 0 g 0 0 0 0) (e := e) h1 h2 h3 hj2.1 (runA_ou h2.2.2.1 hj2.1 500) q1 q2 q3.2.1.2.1 q3.2.1.2.2.1 q3.1.1 (q3.2.2.2.2.1 j hj)
theorem TC.get {j : Nat} (h : TC tg K P I x en e i p g b) (hj : j < b.nt) : lgetf K P I (P p 3) (j : Int) 7 = some (elt P (P p 3) j) := by
  have := h.2.2.2.2.2.2.2.2.2.1.get (t := 7) (by decide) (x := (j : Int)) (by omega)
  rw [Int.toNat_natCast] at this
  exact this
theorem h_pass_l : ∀ (d fuel k : Nat) (I : IT), d < fuel → k + d = b.nt → TC tg K P I x en e i p g b → b.ff g k = -1 → ∃ I', f_X7_passesAll_10 K P fuel I x en (P p 3) (k : Int) = some ((if b.ff g b.nt = -1 then 1 else 0), I') ∧ FrT tg tgM I I' := by
  intro d
  induction d with
  | zero =>
    intro fuel k I hf hk h hff
    obtain ⟨n, rfl⟩ : ∃ n, fuel = n + 1 := ⟨fuel - 1, by omega⟩
    have hk : k = b.nt := hk
    subst hk
    unfold f_X7_passesAll_10
    rw [h.2.2.2.2.2.2.2.2.2.1.1, if_pos (by omega), if_pos hff]
    exact ⟨I, rfl, FrT.rf⟩
  | succ d ih =>
    intro fuel k I hf hk h hff
    obtain ⟨n, rfl⟩ : ∃ n, fuel = n + 1 := ⟨fuel - 1, by omega⟩
    have hnt := h.2.1.2.2.2.1
    obtain ⟨I1, u1, u2⟩ := h.try (j := k) (by omega)
    unfold f_X7_passesAll_10
    rw [h.2.2.2.2.2.2.2.2.2.1.1, if_neg (by omega), h.get (by omega), bp_s, u1, bi_s, show wr ((k : Int) + 1) = ((k + 1 : Nat) : Int) by rw [wr_id (by omega) (by omega)]; rfl]
    have e : b.ff g (k + 1) = if b.ff g k = -1 then (if b.tryE g k = 0 then -1 else (k : Int)) else b.ff g k := rfl
    rw [if_pos hff] at e
    by_cases c : b.tryE g k = 0
    · rw [if_pos c]
      rw [if_pos c] at e
      obtain ⟨I', k1, k2⟩ := ih n (k + 1) I1 (by omega) (by omega) (h.tm u2) e
      exact ⟨I', k1, u2.tr k2⟩
    · rw [if_neg c]
      rw [if_neg c] at e
      have mono : ∀ q, k + 1 ≤ q → b.ff g q = (k : Int) := by
        intro q hq
        induction q with
        | zero => omega
        | succ q ih2 =>
          by_cases z : k + 1 = q + 1
          · rw [← z]; exact e
          · have := ih2 (by omega)
            show (if b.ff g q = -1 then _ else b.ff g q) = _
            rw [if_neg (by omega), this]
      have := mono b.nt (by omega)
      rw [if_neg (by omega)]
      exact ⟨I1, rfl, u2⟩
/-- the entry passes all tests -/
theorem h_passesAll (h : TC tg K P I x en e i p g b) : ∃ I', f_X7_passesAll K P I x en = some ((if b.ff g b.nt = -1 then 1 else 0), I') ∧ FrT tg tgM I I' := by
  have hnt : b.nt ≤ 12 := h.2.1.2.2.2.1
  unfold f_X7_passesAll
  rw [h.2.2.2.2.2.1]
  exact h_pass_l b.nt FU 0 I (by unfold FU; omega) (by omega) h rfl
end VE2
