section CL5
variable {tg : Tg} {K : KT} {P : PT} {I : IT} {x m a t i c : Nat} {s : Hl} {ks : List Nat}
/-- the places that are a problem's, an entry's -/
def wP (i k j : Nat) : Prop := (k = 7 ∨ k = 8 ∨ k = 9 ∨ k = 10) ∧ j = i ∨ k = 1 ∧ j = 1 + i ∨ (k = 2 ∨ k = 3) ∧ 16 * (1 + i) ≤ j ∧ j < 16 * (1 + i) + 16 ∨ (k = 4 ∨ k = 11) ∧ 12 * i ≤ j ∧ j < 12 * i + 12 ∨ k = 5 ∧ 48 * i ≤ j ∧ j < 48 * i + 48 ∨ k = 12 ∧ 4 * i ≤ j ∧ j < 4 * i + 4
def wE (e k j : Nat) : Prop := (14 ≤ k ∧ k ≤ 20) ∧ j = e ∨ k = 1 ∧ j = 7 + e ∨ (k = 2 ∨ k = 3) ∧ 16 * (7 + e) ≤ j ∧ j < 16 * (7 + e) + 16
theorem MH.p1 {I' : IT} {b : Pb} (h : MH tg P I m s) (hs : s.ok) (hi : i < s.np) (h1 : XPb P I' m i b) (hw : FrW P m (wP i) I I') (hf : ∀ j, j < 25 → I' m j = I m j) : MH tg P I' m (s.sP1 i b) := by
  obtain ⟨a1, a2, ⟨a3, a4⟩, a5, a6, a7, a8⟩ := h
  obtain ⟨s1, s2, s3, s4, s5, s6, -⟩ := hs
  unfold wP at hw
  refine ⟨a1, a2.fr hf, ⟨a3.fw s1.1 hw (by omega) (fun j _ => by omega), a4.fw s2.1 hw (by omega) (fun j _ => by omega)⟩, fun j hj => ?_, fun e he => (a6 e he).fw (s6 e he).2.2.2.1.1 hw (by omega) (fun j _ => by omega), a7.fw hw (fun k _ => by omega) (fun k _ => by omega), a8.fw (Nat.le_refl _) hw (fun j (_ : s.np ≤ j) _ => ⟨by omega, by omega, fun k _ => by omega⟩)⟩
  show XPb P I' m j (updf s.pb i b j)
  have hj : j < s.np := hj
  unfold updf
  by_cases q : j = i
  · rw [if_pos q, q]; exact h1
  · rw [if_neg q]
    exact (a5 j hj).fw (s4 j hj) hw (by omega) (fun k _ => by omega) (fun k _ => by omega) (fun k _ => by omega) (fun k _ => by omega)
theorem MH.e1 {I' : IT} {e : Nat} {n : En} (h : MH tg P I m s) (hs : s.ok) (he : e < s.ne) (h1 : XEn P I' m e n) (hw : FrW P m (wE e) I I') (hf : ∀ j, j < 25 → I' m j = I m j) : MH tg P I' m (s.sE1 e n) := by
  obtain ⟨a1, a2, ⟨a3, a4⟩, a5, a6, a7, a8⟩ := h
  obtain ⟨s1, s2, s3, s4, s5, s6, -⟩ := hs
  unfold wE at hw
  refine ⟨a1, a2.fr hf, ⟨a3.fw s1.1 hw (by omega) (fun j _ => by omega), a4.fw s2.1 hw (by omega) (fun j _ => by omega)⟩, fun j hj => ?_, fun j hj => ?_, a7.fw hw (fun k _ => by omega) (fun k _ => by omega), a8.fw (Nat.le_refl _) hw (fun j _ _ => ⟨by omega, by omega, fun k _ => by omega⟩)⟩
  · have hj : j < s.np := hj
    exact (a5 j hj).fw (s4 j hj) hw (by omega) (fun k _ => by omega) (fun k _ => by omega) (fun k _ => by omega) (fun k _ => by omega)
  · show XEn P I' m j (updf s.en e n j)
    have hj : j < s.ne := hj
    unfold updf
    by_cases q : j = e
    · rw [if_pos q, q]; exact h1
    · rw [if_neg q]
      exact (a6 j hj).fw (s6 j hj).2.2.2.1.1 hw (by omega) (fun k _ => by omega)
theorem MH.min0 {v : Int} (h : MH tg P I m s) (hs : s.ok) : MH tg P (up I m 0 v) m (s.sMin v) := by
  obtain ⟨a1, a2, ⟨a3, a4⟩, a5, a6, a7, a8⟩ := h
  obtain ⟨s1, s2, s3, s4, s5, s6, -⟩ := hs
  have hw : FrW P m (fun k _ => 28 ≤ k) I (up I m 0 v) := FrW.f a1.xd
  exact ⟨a1, ⟨up_s _ _ _ _, by rw [up_k _ _ _ _ (by decide)]; exact a2.2.1, by rw [up_k _ _ _ _ (by decide)]; exact a2.2.2.1, by rw [up_k _ _ _ _ (by decide)]; exact a2.2.2.2⟩, ⟨a3.fw s1.1 hw (by omega) (fun j _ => by omega), a4.fw s2.1 hw (by omega) (fun j _ => by omega)⟩, fun i hi => (a5 i hi).fw (s4 i hi) hw (by omega) (fun j _ => by omega) (fun j _ => by omega) (fun j _ => by omega) (fun j _ => by omega), fun e he => (a6 e he).fw (s6 e he).2.2.2.1.1 hw (by omega) (fun j _ => by omega), a7.fw hw (fun k _ => by omega) (fun k _ => by omega), a8.fw (Nat.le_refl _) hw (fun i _ _ => ⟨by omega, by omega, fun k _ => by omega⟩)⟩
theorem b01 {c : Prop} [Decidable c] : (if c then (1 : Int) else 0) = 0 ∨ (if c then (1 : Int) else 0) = 1 := by
  by_cases h : c
  · rw [if_pos h]; exact Or.inr rfl
  · rw [if_neg h]; exact Or.inl rfl
end CL5
