-- the model's cells
def XT (tg : Tg) (P : PT) (m : Nat) : Prop := tg m = (11, 0, 0) ∧ ∀ k, tt 9 k ≠ 0 → tg (P m k) = (12, 0, k)
theorem XT.xd {tg : Tg} {P : PT} {m : Nat} (h : XT tg P m) : XD P m := ⟨fun k hk => tg_ne (h.2 k hk) h.1 (by simp), fun k j hk hj hkj => tg_ne (h.2 k hk) (h.2 j hj) (by simp [hkj])⟩
/-- what the model holds of a problem, of an entry -/
def XPb (P : PT) (I : IT) (m i : Nat) (b : Pb) : Prop := (I (P m 7) i = (b.lim : Int) ∧ I (P m 8) i = b.chk ∧ I (P m 9) i = b.ver ∧ I (P m 10) i = (b.nt : Int)) ∧ XPg P I m (1 + i) b.sol ∧ (∀ j, j < b.nt → XIn P I m (12 * i + j) (b.tr j).1 ∧ I (P m 11) (12 * i + j) = (b.tr j).2) ∧ ∀ k, k < 4 → I (P m 12) (4 * i + k) = b.pts k
def XEn (P : PT) (I : IT) (m e : Nat) (n : En) : Prop := (I (P m 14) e = (n.team : Int) ∧ I (P m 15) e = (n.prob : Int) ∧ I (P m 16) e = n.whn ∧ I (P m 17) e = n.vd) ∧ XPg P I m (7 + e) n.prg ∧ (n.vd ≠ -1 → I (P m 18) e = n.fl ∧ I (P m 19) e = n.sc ∧ I (P m 20) e = n.jb)
def XF (I : IT) (m : Nat) (min : Int) (np ne : Nat) (frz : Int) : Prop := I m 0 = min ∧ I m 6 = (np : Int) ∧ I m 13 = (ne : Int) ∧ I m 23 = frz
def XAr (P : PT) (I : IT) (m : Nat) (rev jud hck : Nat → Int) : Prop := (∀ k, k < 8 → I (P m 21) k = jud k) ∧ (∀ k, k < 8 → I (P m 22) k = hck k) ∧ ∀ k, k < 48 → I (P m 24) k = rev k
/-- problems that are not there yet -/
def XNew (P : PT) (I : IT) (m np : Nat) : Prop := ∀ i, np ≤ i → i < 6 → I (P m 9) i = 0 ∧ I (P m 10) i = 0 ∧ ∀ k, k < 4 → I (P m 12) (4 * i + k) = 25
def MH (tg : Tg) (P : PT) (I : IT) (m : Nat) (s : Hl) : Prop := XT tg P m ∧ XF I m s.min s.np s.ne s.frz ∧ (XPg P I m 0 s.desk ∧ XIn P I m 72 s.din) ∧ (∀ i, i < s.np → XPb P I m i (s.pb i)) ∧ (∀ e, e < s.ne → XEn P I m e (s.en e)) ∧ XAr P I m s.rev s.jud s.hck ∧ XNew P I m s.np
/-- the places of the model's arrays that are written: array k, place j -/
def FrW (P : PT) (m : Nat) (W : Nat → Nat → Prop) (I I' : IT) : Prop := ∀ k j, tt 9 k ≠ 0 → ¬ W k j → I' (P m k) j = I (P m k) j
section XF1
variable {tg : Tg} {K : KT} {P : PT} {I I' : IT} {m i e sl : Nat} {W : Nat → Nat → Prop}
theorem FrW.tr {I1 I2 : IT} (h : FrW P m W I I1) (h2 : FrW P m W I1 I2) : FrW P m W I I2 := fun k j hk hw => (h2 k j hk hw).trans (h k j hk hw)
theorem FrW.u1 {k j : Nat} {v : Int} (hX : XD P m) (hk : tt 9 k ≠ 0) (hw : W k j) : FrW P m W I (up I (P m k) j v) := fun k2 j2 h2 hn => by
  rw [up_apply, if_neg]
  rintro ⟨g1, rfl⟩
  by_cases c : k2 = k
  · subst c; exact hn hw
  · exact hX.2 k2 k h2 hk c g1
theorem FrW.f {j : Nat} {v : Int} (hX : XD P m) : FrW P m W I (up I m j v) := fun k2 j2 h2 _ => congrFun (up_b (hX.1 k2 h2)) j2
theorem FrW.mono {W2 : Nat → Nat → Prop} (h : FrW P m W I I') (hw : ∀ k j, W k j → W2 k j) : FrW P m W2 I I' := fun k j hk hn => h k j hk (fun e => hn (hw k j e))
theorem XPg.fw {g : Pg} (h : XPg P I m sl g) (hg : g.n ≤ 16) (hf : FrW P m W I I') (h1 : ¬ W 1 sl) (h2 : ∀ j, j < 16 → ¬ W 2 (16 * sl + j) ∧ ¬ W 3 (16 * sl + j)) : XPg P I' m sl g :=
  ⟨by rw [hf 1 sl (by decide) h1]; exact h.1, fun j hj => by
    have hj16 : j < 16 := Nat.lt_of_lt_of_le hj hg
    rw [hf 2 _ (by decide) (h2 j hj16).1, hf 3 _ (by decide) (h2 j hj16).2]; exact h.2 j hj⟩
theorem XIn.fw {r : Rw} (h : XIn P I m i r) (hr : r.n ≤ 4) (hf : FrW P m W I I') (h1 : ¬ W 4 i) (h2 : ∀ j, j < 4 → ¬ W 5 (4 * i + j)) : XIn P I' m i r :=
  ⟨by rw [hf 4 i (by decide) h1]; exact h.1, fun j hj => by rw [hf 5 _ (by decide) (h2 j (Nat.lt_of_lt_of_le hj hr))]; exact h.2 j hj⟩
theorem XPb.fw {b : Pb} (h : XPb P I m i b) (hb : b.ok) (hf : FrW P m W I I') (h1 : ¬ W 7 i ∧ ¬ W 8 i ∧ ¬ W 9 i ∧ ¬ W 10 i ∧ ¬ W 1 (1 + i)) (h2 : ∀ j, j < 16 → ¬ W 2 (16 * (1 + i) + j) ∧ ¬ W 3 (16 * (1 + i) + j)) (h3 : ∀ j, j < 12 → ¬ W 4 (12 * i + j) ∧ ¬ W 11 (12 * i + j)) (h4 : ∀ j, j < 48 → ¬ W 5 (48 * i + j)) (h5 : ∀ k, k < 4 → ¬ W 12 (4 * i + k)) : XPb P I' m i b := by
  obtain ⟨⟨g1, g2, g3, g4⟩, g5, g6, g7⟩ := h
  have hnt : b.nt ≤ 12 := hb.2.2.2.1
  refine ⟨⟨?_, ?_, ?_, ?_⟩, g5.fw hb.2.2.1.1 hf h1.2.2.2.2 h2, fun j hj => ⟨(g6 j hj).1.fw (hb.2.2.2.2.1 j hj).1.1 hf (h3 j (by omega)).1 (fun k hk => ?_), ?_⟩, fun k hk => ?_⟩
  · rw [hf 7 i (by decide) h1.1]; exact g1
  · rw [hf 8 i (by decide) h1.2.1]; exact g2
  · rw [hf 9 i (by decide) h1.2.2.1]; exact g3
  · rw [hf 10 i (by decide) h1.2.2.2.1]; exact g4
  · have := h4 (4 * j + k) (by omega)
    rw [show 4 * (12 * i + j) + k = 48 * i + (4 * j + k) by omega]; exact this
  · rw [hf 11 _ (by decide) (h3 j (by omega)).2]; exact (g6 j hj).2
  · rw [hf 12 _ (by decide) (h5 k hk)]; exact g7 k hk
theorem XEn.fw {n : En} (h : XEn P I m e n) (hg : n.prg.n ≤ 16) (hf : FrW P m W I I') (h1 : ¬ W 14 e ∧ ¬ W 15 e ∧ ¬ W 16 e ∧ ¬ W 17 e ∧ ¬ W 18 e ∧ ¬ W 19 e ∧ ¬ W 20 e ∧ ¬ W 1 (7 + e)) (h2 : ∀ j, j < 16 → ¬ W 2 (16 * (7 + e) + j) ∧ ¬ W 3 (16 * (7 + e) + j)) : XEn P I' m e n := by
  obtain ⟨⟨g1, g2, g3, g4⟩, g5, g6⟩ := h
  obtain ⟨a1, a2, a3, a4, a5, a6, a7, a8⟩ := h1
  refine ⟨⟨?_, ?_, ?_, ?_⟩, g5.fw hg hf a8 h2, fun hv => ?_⟩
  · rw [hf 14 e (by decide) a1]; exact g1
  · rw [hf 15 e (by decide) a2]; exact g2
  · rw [hf 16 e (by decide) a3]; exact g3
  · rw [hf 17 e (by decide) a4]; exact g4
  · rw [hf 18 e (by decide) a5, hf 19 e (by decide) a6, hf 20 e (by decide) a7]; exact g6 hv
theorem XAr.fw {r j h : Nat → Int} (q : XAr P I m r j h) (hf : FrW P m W I I') (h1 : ∀ k, k < 8 → ¬ W 21 k ∧ ¬ W 22 k) (h2 : ∀ k, k < 48 → ¬ W 24 k) : XAr P I' m r j h :=
  ⟨fun k hk => by rw [hf 21 k (by decide) (h1 k hk).1]; exact q.1 k hk, fun k hk => by rw [hf 22 k (by decide) (h1 k hk).2]; exact q.2.1 k hk, fun k hk => by rw [hf 24 k (by decide) (h2 k hk)]; exact q.2.2 k hk⟩
theorem XNew.fw {np np2 : Nat} (h : XNew P I m np) (hle : np ≤ np2) (hf : FrW P m W I I') (h1 : ∀ i, np2 ≤ i → i < 6 → ¬ W 9 i ∧ ¬ W 10 i ∧ ∀ k, k < 4 → ¬ W 12 (4 * i + k)) : XNew P I' m np2 := fun i g1 g2 => by
  obtain ⟨a1, a2, a3⟩ := h i (by omega) g2
  obtain ⟨b1, b2, b3⟩ := h1 i g1 g2
  exact ⟨by rw [hf 9 i (by decide) b1]; exact a1, by rw [hf 10 i (by decide) b2]; exact a2, fun k hk => by rw [hf 12 _ (by decide) (b3 k hk)]; exact a3 k hk⟩
theorem XF.fr {mi fz : Int} {np ne : Nat} (h : XF I m mi np ne fz) (hf : ∀ j, j < 25 → I' m j = I m j) : XF I' m mi np ne fz := ⟨by rw [hf 0 (by decide)]; exact h.1, by rw [hf 6 (by decide)]; exact h.2.1, by rw [hf 13 (by decide)]; exact h.2.2.1, by rw [hf 23 (by decide)]; exact h.2.2.2⟩
/-- writes of the model's scratch alone -/
def FrY (tg : Tg) (m : Nat) (I I' : IT) : Prop := (∀ b, b ≠ m → ¬ ((tg b).1 = 12 ∧ 28 ≤ (tg b).2.2 ∧ (tg b).2.2 ≤ 32) → I' b = I b) ∧ ∀ j, j < 25 → I' m j = I m j
theorem FrY.rf : FrY tg m I I := ⟨fun _ _ _ => rfl, fun _ _ => rfl⟩
theorem FrY.tr {I1 I2 : IT} (h : FrY tg m I I1) (h2 : FrY tg m I1 I2) : FrY tg m I I2 := ⟨fun b g1 g2 => (h2.1 b g1 g2).trans (h.1 b g1 g2), fun j hj => (h2.2 j hj).trans (h.2 j hj)⟩
theorem FrY.f {j : Nat} {v : Int} (hj : 25 ≤ j) : FrY tg m I (up I m j v) := ⟨fun b g1 _ => up_b g1, fun i hi => up_k _ _ _ _ (by omega)⟩
theorem FrY.a {k j : Nat} {v : Int} (hT : XT tg P m) (hk : tt 9 k ≠ 0) (h28 : 28 ≤ k ∧ k ≤ 32) : FrY tg m I (up I (P m k) j v) := by
  refine ⟨fun b _ g2 => up_b (fun q => g2 ?_), fun i _ => by rw [up_b (Ne.symm (hT.xd.1 k hk))]⟩
  rw [q, hT.2 k hk]
  exact ⟨rfl, h28⟩
theorem FrX.y (hT : XT tg P m) (h : FrX P m I I') : FrY tg m I I' := by
  refine ⟨fun b g1 g2 => h.1 b g1 (fun q => g2 ?_) (fun q => g2 ?_), fun j hj => h.2 j (by omega) (by omega) (by omega) (by omega)⟩
  · rw [q, hT.2 28 (by decide)]; exact ⟨rfl, by decide⟩
  · rw [q, hT.2 29 (by decide)]; exact ⟨rfl, by decide⟩
theorem FrY.w (hT : XT tg P m) (h : FrY tg m I I') : FrW P m (fun k _ => 28 ≤ k) I I' := fun k j hk hn => by
  rw [h.1 _ (hT.xd.1 k hk) (fun q => hn (by rw [hT.2 k hk] at q; exact q.2.1))]
theorem FrY.t (hT : XT tg P m) (h : FrY tg m I I') : FrT tg (fun u => 11 ≤ u.1) I I' := fun b hb => h.1 b (fun q => hb (by show 11 ≤ (tg b).1; rw [q, hT.1]; decide)) (fun q => hb (by show 11 ≤ (tg b).1; rw [q.1]; decide))
theorem scr11 {u : Nat × Nat × Nat} (h : 11 ≤ u.1) : scr u := Or.inr (Or.inr (Or.inl h))
theorem MH.w {s : Hl} (h : MH tg P I m s) (hs : s.ok) (hw : FrW P m (fun k _ => 28 ≤ k) I I') (hf : ∀ j, j < 25 → I' m j = I m j) : MH tg P I' m s := by
  obtain ⟨h1, h2, ⟨h3, h4⟩, h5, h6, h7, h8⟩ := h
  obtain ⟨s1, s2, s3, s4, s5, s6, -⟩ := hs
  refine ⟨h1, h2.fr hf, ⟨h3.fw s1.1 hw (by omega) (fun j _ => by omega), h4.fw s2.1 hw (by omega) (fun j _ => by omega)⟩, fun i hi => (h5 i hi).fw (s4 i hi) hw (by omega) (fun j _ => by omega) (fun j _ => by omega) (fun j _ => by omega) (fun j _ => by omega), fun e he => (h6 e he).fw (s6 e he).2.2.2.1.1 hw (by omega) (fun j _ => by omega), h7.fw hw (fun k _ => by omega) (fun k _ => by omega), h8.fw (Nat.le_refl _) hw (fun i _ _ => ⟨by omega, by omega, fun k _ => by omega⟩)⟩
theorem MH.y {s : Hl} (h : MH tg P I m s) (hs : s.ok) (hf : FrY tg m I I') : MH tg P I' m s := h.w hs (hf.w h.1) hf.2
/-- the class's writes leave the model as it is -/
theorem MH.h {s : Hl} (h : MH tg P I m s) (hs : s.ok) (hf : FrT tg (fun u => u.1 ≤ 10) I I') : MH tg P I' m s :=
  h.w hs (fun k j hk _ => by rw [hf.at (h.1.2 k hk) (show ¬ 12 ≤ 10 by decide)]) (fun j _ => by rw [hf.at h.1.1 (by decide)])
end XF1
