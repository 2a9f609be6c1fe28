section CL7
variable {tg : Tg} {K : KT} {P : PT} {I : IT} {x m a t i c : Nat} {s : Hl} {ks : List Nat}
theorem x_answer {p t k : Int} (h : MH tg P I m s) (hs : s.ok) : MOut tg P m [3] I (f_X8_answer K P I m p t k) (answerS s p t k) := by
  have bad : f_X8_answer_34 K P I m p t k 1 m = some (0, up I m 38 1) := by
    unfold f_X8_answer_34
    rw [bnd_e, up_s, if_neg (by decide)]
  unfold f_X8_answer f_X8_answer_29 answerS
  rw [x_isP h hs, bp_s]
  by_cases c1 : 0 ≤ p ∧ p < (s.np : Int)
  · have hnp := hs.2.2.1
    have hp := h.2.2.2.1 p.toNat (by omega)
    have hb := hs.2.2.2.1 p.toNat (by omega)
    have hnt : (s.pb p.toNat).nt ≤ 12 := hb.2.2.2.1
    rw [if_pos c1, if_neg (by decide), if_pos c1, ck_t (by omega), hp.1.2.2.2, wr_id (by omega) (by omega), x_isIn, bp_s]
    by_cases c2 : 0 ≤ t ∧ t < ((s.pb p.toNat).nt : Int)
    · rw [if_pos (show 0 ≤ t ∧ t ≤ ((s.pb p.toNat).nt : Int) - 1 by omega), if_neg (show ¬ (1 : Int) = 0 by decide), if_pos c2]
      by_cases c3 : 0 ≤ k
      · rw [if_pos c3, if_pos c3]
        obtain ⟨h1, f1⟩ := h.thr hs (v := 0)
        have e38 : up I m 38 0 m 38 = 0 := up_s _ _ _ _
        unfold f_X8_answer_34
        rw [bnd_e]
        generalize up I m 38 0 = I1 at h1 f1 e38 ⊢
        have hp1 := h1.2.2.2.1 p.toNat (by omega)
        have htr := hb.2.2.2.2.1 t.toNat (by omega)
        rw [e38, if_pos (by decide), wr_id (x := 1 + p) (by omega) (by omega), wr_id (x := 12 * p) (by omega) (by omega), wr_id (x := 12 * p + t) (by omega) (by omega), show 1 + p = ((1 + p.toNat : Nat) : Int) by omega, show 12 * p + t = ((12 * p.toNat + t.toNat : Nat) : Int) by omega]
        obtain ⟨I', u1, u2, u3, u4, u5⟩ := x_answers (K := K) h1 hs hb.2.2.1 htr.1 (sl := 1 + p.toNat) (inp := 12 * p.toNat + t.toNat) (by omega) (by omega) hp1.2.1 (hp1.2.2.1 t.toNat (by omega)).1
        have ho := (runA_ou hb.2.2.1 htr.1 500).1
        have u2 : XRow P I' m 31 32 ((s.pb p.toNat).ans t.toNat) := u2
        rw [u1, bi_s, if_pos htr.2.2, if_neg (by decide), u2.1]
        refine ⟨_, I', ?_, fun _ => rfl, by rw [u4]; exact e38, u3, f1.tr (u5.t h1.1)⟩
        by_cases c : k < (((s.pb p.toNat).ans t.toNat).1 : Int)
        · rw [if_pos c, if_neg (show ¬ (((s.pb p.toNat).ans t.toNat).1 : Int) ≤ k by omega), ck_t (by have : ((s.pb p.toNat).ans t.toNat).1 ≤ 8 := ho; omega)]
          rw [u2.2 k.toNat (by omega)]
        · rw [if_neg c, if_pos (show (((s.pb p.toNat).ans t.toNat).1 : Int) ≤ k by omega)]
      · rw [if_neg c3, if_neg c3, bad]
        exact MOut.bad (by decide) rfl h hs rfl
    · rw [if_neg (show ¬ (0 ≤ t ∧ t ≤ ((s.pb p.toNat).nt : Int) - 1) by omega), if_pos (show (0 : Int) = 0 from rfl), if_neg c2, bad]
      exact MOut.bad (by decide) rfl h hs rfl
  · rw [if_neg c1, if_pos rfl, if_neg c1, bad]
    exact MOut.bad (by decide) rfl h hs rfl
end CL7
