section JU1
variable {tg : Tg} {K : KT} {P : PT} {I : IT} {x m a t i c e : Nat} {s : Hl} {ks : List Nat}
def wJ (e k j : Nat) : Prop := (17 ≤ k ∧ k ≤ 20) ∧ j = e ∨ k = 21 ∨ 28 ≤ k
theorem MH.ej {I' : IT} {n : En} {jud : Nat → Int} (h : MH tg P I m s) (hs : s.ok) (he : e < s.ne) (h1 : XEn P I' m e n) (h2 : ∀ k, k < 8 → I' (P m 21) k = jud k) (hw : FrW P m (wJ e) I I') (hf : ∀ j, j < 25 → I' m j = I m j) : MH tg P I' m ((s.sE1 e n).sJud jud) := by
  obtain ⟨a1, a2, ⟨a3, a4⟩, a5, a6, a7, a8⟩ := h
  obtain ⟨s1, s2, s3, s4, s5, s6, -⟩ := hs
  unfold wJ at hw
  refine ⟨a1, a2.fr hf, ⟨a3.fw s1.1 hw (by omega) (fun j _ => by omega), a4.fw s2.1 hw (by omega) (fun j _ => by omega)⟩, fun j hj => ?_, fun j hj => ?_, ⟨h2, fun k hk => ?_, fun k hk => ?_⟩, a8.fw (Nat.le_refl _) hw (fun j _ _ => ⟨by omega, by omega, fun k _ => by omega⟩)⟩
  · have hj : j < s.np := hj
    exact (a5 j hj).fw (s4 j hj) hw (by omega) (fun k _ => by omega) (fun k _ => by omega) (fun k _ => by omega) (fun k _ => by omega)
  · show XEn P I' m j (updf s.en e n j)
    have hj : j < s.ne := hj
    unfold updf
    by_cases q : j = e
    · rw [if_pos q, q]; exact h1
    · rw [if_neg q]
      exact (a6 j hj).fw (s6 j hj).2.2.2.1.1 hw (by omega) (fun k _ => by omega)
  · rw [hw 22 k (by decide) (by omega)]; exact a7.2.1 k hk
  · rw [hw 24 k (by decide) (by omega)]; exact a7.2.2 k hk
def midE (n : En) (fl sc : Int) : En := mkEn n.team n.prob n.whn n.prg n.vd (if n.vd = -1 then -1 else fl) (if n.vd = -1 then 0 else sc) n.jb
theorem midE_ok {n : En} {np : Nat} (h : n.ok np) {fl sc : Int} : (midE n fl sc).ok np := ⟨h.1, h.2.1, h.2.2.1, h.2.2.2.1, h.2.2.2.2.1, fun q => ⟨if_pos q, if_pos q, (h.2.2.2.2.2 q).2.2⟩⟩
theorem MH.mid {I' : IT} (h : MH tg P I m s) (hs : s.ok) (he : e < s.ne) (hw : FrW P m (fun k j => (k = 18 ∨ k = 19) ∧ j = e ∨ 28 ≤ k) I I') (hf : ∀ j, j < 25 → I' m j = I m j) : MH tg P I' m (s.sE1 e (midE (s.en e) (I' (P m 18) e) (I' (P m 19) e))) := by
  obtain ⟨⟨g1, g2, g3, g4⟩, g5, g6⟩ := h.2.2.2.2.1 e he
  have hn := hs.2.2.2.2.2.1 e he
  have q : XEn P I' m e (midE (s.en e) (I' (P m 18) e) (I' (P m 19) e)) := by
    refine ⟨⟨?_, ?_, ?_, ?_⟩, g5.fw hn.2.2.2.1.1 hw (by omega) (fun j _ => by omega), fun hv => ⟨?_, ?_, ?_⟩⟩
    · rw [hw 14 e (by decide) (by omega)]; exact g1
    · rw [hw 15 e (by decide) (by omega)]; exact g2
    · rw [hw 16 e (by decide) (by omega)]; exact g3
    · rw [hw 17 e (by decide) (by omega)]; exact g4
    · exact (if_neg hv).symm
    · exact (if_neg hv).symm
    · rw [hw 20 e (by decide) (by omega)]; exact (g6 hv).2.2
  exact h.ej hs he (jud := s.jud) q (fun k hk => by rw [hw 21 k (by decide) (by omega)]; exact h.2.2.2.2.2.1.1 k hk) (hw.mono (fun k j (z : (k = 18 ∨ k = 19) ∧ j = e ∨ 28 ≤ k) => by unfold wJ; omega)) hf
theorem sE1_en {n : En} : (s.sE1 e n).en e = n := by
  show updf s.en e n e = n
  unfold updf
  rw [if_pos rfl]
theorem msk_rg {b : Pb} {g : Pg} : ∀ k, rg (b.msk g k).1 ∧ rg (b.msk g k).2
  | 0 => by
    show rg 0 ∧ rg 0
    exact ⟨⟨by decide, by decide⟩, ⟨by decide, by decide⟩⟩
  | k + 1 => by
    show rg (bor (b.msk g k).1 (bsl 1 (b.tr k).2)) ∧ rg (if b.tryE g k = 0 then (b.msk g k).2 else bor (b.msk g k).2 (bsl 1 (b.tr k).2))
    refine ⟨rg_bor _ _, ?_⟩
    by_cases c : b.tryE g k = 0
    · rw [if_pos c]; exact (msk_rg k).2
    · rw [if_neg c]; exact rg_bor _ _
end JU1
