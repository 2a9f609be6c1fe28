section CL6
variable {tg : Tg} {K : KT} {P : PT} {I : IT} {x m a t i c : Nat} {s : Hl} {ks : List Nat}
/-- places k .. n of one row are made 0 -/
def zer (a n k : Nat) (I I' : IT) : Prop := (∀ j, k ≤ j → j < n → I' a j = 0) ∧ (∀ j, j < k → I' a j = I a j) ∧ ∀ b, b ≠ a → I' b = I b
theorem zer.rf {a n k : Nat} (h : n ≤ k) : zer a n k I I := ⟨fun j h1 h2 => absurd h1 (by omega), fun _ _ => rfl, fun _ _ => rfl⟩
theorem zer.st {a n k : Nat} {I' : IT} (hk : k < n) (h : zer a n (k + 1) (up I a k 0) I') : zer a n k I I' := by
  obtain ⟨h1, h2, h3⟩ := h
  refine ⟨fun j g1 g2 => ?_, fun j hj => ?_, fun b hb => (h3 b hb).trans (up_b hb)⟩
  · by_cases q : j = k
    · subst q; rw [h2 j (by omega), up_s]
    · exact h1 j (by omega) g2
  · rw [h2 j (by omega), up_k _ _ _ _ (by omega)]
theorem h_frz_l : ∀ (d fuel k : Nat) (I : IT), d < fuel → k + d = 48 → ∃ I', f_X7_freeze_15 K P fuel I x (k : Int) = some (0, (), I') ∧ zer (P x 8) 48 k I I' := by
  intro d
  induction d with
  | zero =>
    intro fuel k I hf hk
    obtain ⟨n, rfl⟩ : ∃ n, fuel = n + 1 := ⟨fuel - 1, by omega⟩
    unfold f_X7_freeze_15
    rw [if_pos (by omega)]
    exact ⟨I, rfl, zer.rf (by omega)⟩
  | succ d ih =>
    intro fuel k I hf hk
    obtain ⟨n, rfl⟩ : ∃ n, fuel = n + 1 := ⟨fuel - 1, by omega⟩
    unfold f_X7_freeze_15
    rw [if_neg (by omega), ck_t (by omega), bnd_e, Int.toNat_natCast, show wr ((k : Int) + 1) = ((k + 1 : Nat) : Int) by rw [wr_id (by omega) (by omega)]; rfl]
    obtain ⟨I', u1, u2⟩ := ih n (k + 1) (up I (P x 8) k 0) (by omega) (by omega)
    exact ⟨I', u1, u2.st (by omega)⟩
theorem h_freeze {v : Int} (h : HR tg K P I x s) : ∃ I', f_X7_freeze K P I x v = some ((freezeS s v).1, (), I') ∧ HR tg K P I' x (freezeS s v).2.2 ∧ FrT tg (fun u => u.1 ≤ 10) I I' := by
  unfold f_X7_freeze freezeS
  rw [n_range]
  by_cases c1 : -1 ≤ v ∧ v ≤ 9999
  · rw [if_pos c1, bx_0, if_pos c1, bnd_e]
    have h1 := h.x0 (I' := up I x 11 v) (mi := s.min) (fz := v) ⟨h.1.1, h.1.2.1, by rw [up_k _ _ _ _ (by decide)]; exact h.1.2.2.1, up_s _ _ _ _⟩ (FrT.up h.1.1)
    have f1 : FrT tg (fun u => u.1 ≤ 10) I (up I x 11 v) := FrT.up (by rw [h.1.1]; decide)
    generalize up I x 11 v = I1 at h1 f1 ⊢
    obtain ⟨I', u1, u2, u3, u4⟩ := h_frz_l (K := K) (P := P) (x := x) 48 FU 0 I1 (by decide) (by decide)
    have t8 := h1.2.2.2.2.2.1.2.2
    have f8 : FrT tg (fun u => u = (8, 0, 8)) I1 I' := fun b hb => u4 b (fun e => hb (by rw [e]; exact t8))
    have a8 := h1.2.2.2.2.2
    have q : HRa tg P I' x (fun _ => 0) s.jud s.hck := by
      refine ⟨a8.1, ?_, ?_, fun k hk => u2 k (Nat.zero_le _) hk⟩
      · rw [f8.at a8.1.1 (by simp)]; exact a8.2.1
      · rw [f8.at a8.1.2.1 (by simp)]; exact a8.2.2.1
    refine ⟨I', u1, ?_, f1.tr (f8.mono (fun u hu => by rw [hu]; exact (show 8 ≤ 10 by decide)))⟩
    have q2 := h1.ar q (f8.mono (fun u hu => by rw [hu]))
    have e : (((((s.sMin s.min).sFrz v s.rev).sFrz ((s.sMin s.min).sFrz v s.rev).frz (fun _ => 0)).sJud s.jud).sHck s.hck) = s.sFrz v (fun _ => 0) := rfl
    rw [e] at q2
    exact q2
  · rw [if_neg c1, if_neg c1, bx_s (by decide)]
    exact ⟨I, rfl, h, FrT.rf⟩
theorem MH.ar {I' : IT} {rev jud hck : Nat → Int} {fz : Int} (h : MH tg P I m s) (hs : s.ok) (h1 : XAr P I' m rev jud hck) (h2 : XF I' m s.min s.np s.ne fz) (hw : FrW P m (fun k _ => 21 ≤ k) I I') : MH tg P I' m (((s.sFrz fz rev).sJud jud).sHck hck) := by
  obtain ⟨a1, a2, ⟨a3, a4⟩, a5, a6, a7, a8⟩ := h
  obtain ⟨s1, s2, s3, s4, s5, s6, -⟩ := hs
  exact ⟨a1, h2, ⟨a3.fw s1.1 hw (by omega) (fun j _ => by omega), a4.fw s2.1 hw (by omega) (fun j _ => by omega)⟩, fun i hi => (a5 i hi).fw (s4 i hi) hw (by omega) (fun j _ => by omega) (fun j _ => by omega) (fun j _ => by omega) (fun j _ => by omega), fun e he => (a6 e he).fw (s6 e he).2.2.2.1.1 hw (by omega) (fun j _ => by omega), h1, a8.fw (Nat.le_refl _) hw (fun i _ _ => ⟨by omega, by omega, fun k _ => by omega⟩)⟩
end CL6
