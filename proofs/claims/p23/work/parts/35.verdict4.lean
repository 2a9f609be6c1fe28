section VE4
variable {tg : Tg} {K : KT} {P : PT} {I : IT} {x m a t i c p en e : Nat} {s : Hl} {ks : List Nat} {b : Pb} {g : Pg}
theorem HR.tc (h : HR tg K P I x s) (hs : s.ok) (he : e < s.ne) : TC tg K P I x (elt P (P x 4) e) e (s.en e).prob (elt P (P x 3) (s.en e).prob) (s.en e).prg (s.pb (s.en e).prob) := by
  have hn := hs.2.2.2.2.2.1 e he
  have h2 := h.2.2.2.2.1.2.2 e he
  exact ⟨h.2.1, hs.2.2.2.1 _ hn.2.1, hn.2.2.2.1, h2.1, h2.2.1, h2.2.2.1, h.2.2.2.1.2.2 _ hn.2.1⟩
theorem h_giveVerdict (h : HR tg K P I x s) (hs : s.ok) (he : e < s.ne) : ∃ I', f_X7_giveVerdict K P I x (elt P (P x 4) e) = some I' ∧ HR tg K P I' x (judE s e) ∧ FrT tg (fun u => u.1 ≤ 10) I I' := by
  have hc := h.tc hs he
  have hn := hs.2.2.2.2.2.1 e he
  have h2 := h.2.2.2.2.1.2.2 e he
  have t1 := h2.1
  have t6 := h.2.2.2.2.2.1.1
  have hnt : (s.pb (s.en e).prob).nt ≤ 12 := hc.2.1.2.2.2.1
  unfold f_X7_giveVerdict
  rw [bnd_e, bnd_e, hc.2.2.2.2.2.1]
  have f0 : FrT tg (fun u => u = (6, e, 0)) I (up (up I (elt P (P x 4) e) 4 0) (elt P (P x 4) e) 5 (-1)) := (FrT.up t1).tr (FrT.up t1)
  obtain ⟨I', k1, ⟨v4, v5, v6, v7, vj⟩, ⟨w1, w2⟩, k3⟩ := h_gv_l (K := K) (tm := (s.en e).team) t6 hn.1 I h2.2.2.2.1 (s.pb (s.en e).prob).nt FU 0 _ (by unfold FU; omega) (by omega) (hc.fr f0 (fun _ => by simp) (fun _ => by simp) (fun _ => by simp)) (by rw [up_k _ _ _ _ (by decide), up_s]; rfl) (by rw [up_s]; rfl) (fun j hj => by rw [up_k _ _ _ _ (by omega), up_k _ _ _ _ (by omega)]) (f0.mono (fun _ q => Or.inr q))
  refine ⟨I', k1, ?_, k3.mono (fun u q => ?_)⟩
  · obtain ⟨a1, a2, a3, a4, ⟨a5, a6, a7⟩, a8⟩ := h
    have hne : ∀ t i c, t ≠ 3 → (t ≠ 6 ∨ i ≠ e) → (t ≠ 8 ∨ c ≠ 6) → ¬ ((t, i, c).1 = 3 ∨ ((t, i, c) : Nat × Nat × Nat) = (6, e, 0) ∨ ((t, i, c) : Nat × Nat × Nat) = (8, 0, 6)) := by
      intro t i c g1 g2 g3 q
      simp only [Prod.mk.injEq] at q
      omega
    refine ⟨a1.fr k3 (hne _ _ _ (by decide) (by omega) (by omega)), a2, a3.fr k3 (fun _ => hne _ _ _ (by decide) (by omega) (by omega)) (fun _ => hne _ _ _ (by decide) (by omega) (by omega)), a4.fr k3 (hne _ _ _ (by decide) (by omega) (by omega)) (fun _ _ => hne _ _ _ (by decide) (by omega) (by omega)) (fun _ _ => hne _ _ _ (by decide) (by omega) (by omega)), ⟨a5, a6.fr (k3.at a5.1 (hne _ _ _ (by decide) (by omega) (by omega))), fun j hj => ?_⟩, ⟨a8.1, fun k hk => ?_, ?_, ?_⟩⟩
    · show EnR tg P I' (P x 3) j (elt P (P x 4) j) (updf s.en e _ j)
      unfold updf
      by_cases q : j = e
      · rw [if_pos q, q]
        obtain ⟨g1, g2, g3, g4⟩ := h2
        refine ⟨g1, ⟨g2.1, g2.2.fr (k3.at g2.1.1 ?_) (k3.at g2.1.2.1 ?_) (k3.at g2.1.2.2 ?_)⟩, g3, ?_⟩
        · simp
        · simp
        · simp
        · exact ⟨(vj 0 (by decide)).trans g4.1, (vj 2 (by decide)).trans g4.2.1, v4, v5, v6, v7⟩
      · rw [if_neg q]
        exact (a7 j hj).fr k3 (fun k => hne _ _ _ (by decide) (by omega) (by omega))
    · show I' (P x 6) k = updf s.jud (s.en e).team _ k
      unfold updf
      by_cases q : k = (s.en e).team
      · rw [if_pos q, q, w1, a8.2.1 _ hn.1]
      · rw [if_neg q, w2 k q]; exact a8.2.1 k hk
    · rw [k3.at a8.1.2.1 (hne _ _ _ (by decide) (by omega) (by omega))]; exact a8.2.2.1
    · rw [k3.at a8.1.2.2 (hne _ _ _ (by decide) (by omega) (by omega))]; exact a8.2.2.2
  · show u.1 ≤ 10
    rcases q with q | q | q
    · rw [q]; decide
    · rw [q]; exact (show 6 ≤ 10 by decide)
    · rw [q]; exact (show 8 ≤ 10 by decide)
end VE4
