/-! MAKING: the pool grows; what stood stays -/
def TL (tg : Tg) (L : List Nat) : Prop := ∀ b, (tg b).1 < 20 → b ∈ L
def KL (K : KT) (L : List Nat) : Prop := (∀ b, K b ≠ 0 → b ∈ L) ∧ (K 1 % 4 = 2 → K 1 < 102)
theorem up_bg {α : Type} {f : Nat → Nat → α} {a k b : Nat} {v : α} (h : b ≠ a) : up f a k v b = f b := funext fun j => by simp [up, h]
/-- from one pool to a later one: the cells that stood, but for those whose tag is in Q, are as they were -/
def Gw (Q : Nat × Nat × Nat → Prop) (L : List Nat) (tg : Tg) (K : KT) (P : PT) (I : IT) (L1 : List Nat) (tg1 : Tg) (K1 : KT) (P1 : PT) (I1 : IT) : Prop := (∀ b, b ∈ L → b ∈ L1 ∧ tg1 b = tg b ∧ K1 b = K b ∧ (¬ Q (tg b) → P1 b = P b ∧ I1 b = I b)) ∧ TL tg1 L1 ∧ KL K1 L1
section GW1
variable {Q Q2 : Nat × Nat × Nat → Prop} {L L1 L2 : List Nat} {tg tg1 tg2 : Tg} {K K1 K2 : KT} {P P1 P2 : PT} {I I1 I2 : IT} {a b x m t i c l n : Nat} {u w : Nat × Nat × Nat} {s : Hl}
theorem Gw.rf (hT : TL tg L) (hK : KL K L) : Gw Q L tg K P I L tg K P I := ⟨fun b hb => ⟨hb, rfl, rfl, fun _ => ⟨rfl, rfl⟩⟩, hT, hK⟩
theorem Gw.tr (h : Gw Q L tg K P I L1 tg1 K1 P1 I1) (h2 : Gw Q L1 tg1 K1 P1 I1 L2 tg2 K2 P2 I2) : Gw Q L tg K P I L2 tg2 K2 P2 I2 := ⟨fun b hb => by
  obtain ⟨a1, a2, a3, a4⟩ := h.1 b hb
  obtain ⟨b1, b2, b3, b4⟩ := h2.1 b a1
  exact ⟨b1, b2.trans a2, b3.trans a3, fun hq => ⟨(b4 (by rw [a2]; exact hq)).1.trans (a4 hq).1, (b4 (by rw [a2]; exact hq)).2.trans (a4 hq).2⟩⟩, h2.2⟩
theorem Gw.mono (h : Gw Q L tg K P I L1 tg1 K1 P1 I1) (hq : ∀ u, Q u → Q2 u) : Gw Q2 L tg K P I L1 tg1 K1 P1 I1 := ⟨fun b hb => ⟨(h.1 b hb).1, (h.1 b hb).2.1, (h.1 b hb).2.2.1, fun z => (h.1 b hb).2.2.2 (fun y => z (hq _ y))⟩, h.2⟩
theorem Gw.nw {q co : Nat} (hT : TL tg L) (hK : KL K L) (hq : q ∉ L) (hc : (co % 4 = 2 → co < 102) ∨ q ≠ 1) : Gw Q L tg K P I (L ++ [q]) (va_up tg q u) (va_up K q co) (clrN P q) (clr I q) := by
  have ne : ∀ b, b ∈ L → b ≠ q := fun b hb z => hq (z ▸ hb)
  refine ⟨fun b hb => ⟨List.mem_append_left _ hb, va_up_ne _ _ (ne b hb), va_up_ne _ _ (ne b hb), fun _ => ⟨?_, ?_⟩⟩, fun b hb => ?_, fun b hb => ?_, ?_⟩
  · funext j; unfold clrN; rw [if_neg (ne b hb)]
  · funext j; unfold clr; rw [if_neg (ne b hb)]
  · by_cases z : b = q
    · rw [z]; exact List.mem_append_right _ List.mem_cons_self
    · rw [va_up_ne _ _ z] at hb; exact List.mem_append_left _ (hT b hb)
  · by_cases z : b = q
    · rw [z]; exact List.mem_append_right _ List.mem_cons_self
    · rw [va_up_ne _ _ z] at hb; exact List.mem_append_left _ (hK.1 b hb)
  · by_cases z : 1 = q
    · rcases hc with hc | hc
      · rw [← z, va_up_self]; exact hc
      · exact absurd z.symm hc
    · rw [va_up_ne _ _ z]; exact hK.2
theorem Gw.sP {k v : Nat} (h : Gw Q L tg K P I L1 tg1 K1 P1 I1) (ha : a ∉ L ∨ Q (tg1 a)) : Gw Q L tg K P I L1 tg1 K1 (up P1 a k v) I1 := ⟨fun b hb => by
  obtain ⟨a1, a2, a3, a4⟩ := h.1 b hb
  refine ⟨a1, a2, a3, fun hq => ⟨?_, (a4 hq).2⟩⟩
  have hne : b ≠ a := by
    rintro rfl
    rcases ha with ha | ha
    · exact ha hb
    · rw [a2] at ha; exact hq ha
  rw [up_bg hne]; exact (a4 hq).1, h.2⟩
theorem Gw.sI {k : Nat} {v : Int} (h : Gw Q L tg K P I L1 tg1 K1 P1 I1) (ha : a ∉ L ∨ Q (tg1 a)) : Gw Q L tg K P I L1 tg1 K1 P1 (up I1 a k v) := ⟨fun b hb => by
  obtain ⟨a1, a2, a3, a4⟩ := h.1 b hb
  refine ⟨a1, a2, a3, fun hq => ⟨(a4 hq).1, ?_⟩⟩
  have hne : b ≠ a := by
    rintro rfl
    rcases ha with ha | ha
    · exact ha hb
    · rw [a2] at ha; exact hq ha
  rw [up_b hne]; exact (a4 hq).2, h.2⟩
/-- any change of numbers in cells that are new, or in Q -/
theorem Gw.fI (h : Gw Q L tg K P I L1 tg1 K1 P1 I1) (hf : ∀ b, b ∈ L → ¬ Q (tg b) → I2 b = I1 b) : Gw Q L tg K P I L1 tg1 K1 P1 I2 := ⟨fun b hb => by
  obtain ⟨a1, a2, a3, a4⟩ := h.1 b hb
  exact ⟨a1, a2, a3, fun hq => ⟨(a4 hq).1, (hf b hb hq).trans (a4 hq).2⟩⟩, h.2⟩
theorem Gw.sK {co : Nat} (h : Gw Q L tg K P I L1 tg1 K1 P1 I1) (ha : a ∉ L) (ha1 : a ∈ L1) (hc : co < 102) : Gw Q L tg K P I L1 tg1 (va_up K1 a co) P1 I1 := ⟨fun b hb => by
  obtain ⟨a1, a2, a3, a4⟩ := h.1 b hb
  exact ⟨a1, a2, (va_up_ne _ _ (fun z => ha (by rw [← z]; exact hb))).trans a3, a4⟩, h.2.1, fun b hb => by
  by_cases z : b = a
  · rw [z]; exact ha1
  · rw [va_up_ne _ _ z] at hb; exact h.2.2.1 b hb, by
  by_cases z : 1 = a
  · rw [← z, va_up_self]; exact fun _ => hc
  · rw [va_up_ne _ _ z]; exact h.2.2.2⟩
theorem Gw.ta (h : Gw Q L tg K P I L1 tg1 K1 P1 I1) (hT : TL tg L) (ha : tg a = u) (hu : u.1 < 20) : tg1 a = u := ((h.1 a (hT a (by rw [ha]; exact hu))).2.1).trans ha
theorem Gw.at (h : Gw Q L tg K P I L1 tg1 K1 P1 I1) (hT : TL tg L) (ha : tg a = u) (hu : u.1 < 20) (hq : ¬ Q u) : P1 a = P a ∧ I1 a = I a := (h.1 a (hT a (by rw [ha]; exact hu))).2.2.2 (by rw [ha]; exact hq)
theorem Gw.k (h : Gw Q L tg K P I L1 tg1 K1 P1 I1) (hK : KL K L) (ha : K a ≠ 0) : K1 a = K a := (h.1 a (hK.1 a ha)).2.2.1
theorem PgR.gw {g : Pg} (h : PgR tg P I a t i c g) (hg : Gw Q L tg K P I L1 tg1 K1 P1 I1) (hT : TL tg L) (ht : t < 20) (hq : ∀ k, ¬ Q (t, i, k)) : PgR tg1 P1 I1 a t i c g := by
  obtain ⟨⟨h1, h2, h3⟩, h4⟩ := h
  obtain ⟨p1, i1⟩ := hg.at hT h1 ht (hq _)
  refine ⟨⟨hg.ta hT h1 ht, by rw [p1]; exact hg.ta hT h2 ht, by rw [p1]; exact hg.ta hT h3 ht⟩, ?_⟩
  unfold PgI
  rw [p1, i1, (hg.at hT h2 ht (hq _)).2, (hg.at hT h3 ht (hq _)).2]
  exact h4
theorem RwR.gw {r : Rw} (h : RwR tg P I a t i c r) (hg : Gw Q L tg K P I L1 tg1 K1 P1 I1) (hT : TL tg L) (ht : t < 20) (hq : ∀ k, ¬ Q (t, i, k)) : RwR tg1 P1 I1 a t i c r := by
  obtain ⟨⟨h1, h2⟩, h4⟩ := h
  obtain ⟨p1, i1⟩ := hg.at hT h1 ht (hq _)
  refine ⟨⟨hg.ta hT h1 ht, by rw [p1]; exact hg.ta hT h2 ht⟩, ?_⟩
  unfold RowI
  rw [p1, i1, (hg.at hT h2 ht (hq _)).2]
  exact h4
theorem TrR.gw {j : Nat} {inp ans : Rw} {grp : Int} (h : TrR tg P I i j a inp ans grp) (hg : Gw Q L tg K P I L1 tg1 K1 P1 I1) (hT : TL tg L) (hq : ∀ k, ¬ Q (5, i, k)) : TrR tg1 P1 I1 i j a inp ans grp := by
  obtain ⟨h1, h2, h3, h4⟩ := h
  obtain ⟨p1, i1⟩ := hg.at hT h1 (show 5 < 20 by decide) (hq _)
  refine ⟨hg.ta hT h1 (show 5 < 20 by decide), ?_, ?_, by rw [i1]; exact h4⟩
  · rw [p1]; exact h2.gw hg hT (by decide) hq
  · rw [p1]; exact h3.gw hg hT (by decide) hq
theorem LR.gw (h : LR K P I l t n) (hg : Gw Q L tg K P I L1 tg1 K1 P1 I1) (hT : TL tg L) (hK : KL K L) (hl : tg l = u) (hu : u.1 < 20) (hq : ¬ Q u) (hr : P l 1 ≠ 1 → tg (P l 1) = w) (hw : w.1 < 20) (hq2 : ¬ Q w) (ht : t ≠ 0) : LR K1 P1 I1 l t n ∧ (∀ i, i < n → elt P1 l i = elt P l i) ∧ P1 l 1 = P l 1 := by
  obtain ⟨h1, h2, h3⟩ := h
  obtain ⟨p1, i1⟩ := hg.at hT hl hu hq
  have p2 : P l 1 ≠ 1 → P1 (P l 1) = P (P l 1) := fun z => (hg.at hT (hr z) hw hq2).1
  have he : ∀ i, i < n → P1 (P1 l 1) i = P (P l 1) i := fun i hi => by
    rw [p1]
    by_cases z : P l 1 = 1
    · rcases h3 with ⟨-, h3⟩ | ⟨n0, h4, -⟩
      · omega
      · rw [z] at h4
        have := hK.2
        omega
    · rw [p2 z]
  refine ⟨⟨by rw [i1]; exact h1, fun i hi => ?_, ?_⟩, he, by rw [p1]⟩
  · rw [he i hi, hg.k hK (by rw [h2 i hi]; exact ht)]; exact h2 i hi
  · rcases h3 with h3 | ⟨n0, h4, h5⟩
    · exact Or.inl ⟨by rw [p1]; exact h3.1, h3.2⟩
    · exact Or.inr ⟨n0, by rw [p1, hg.k hK (by rw [h4]; omega)]; exact h4, h5⟩
end GW1
