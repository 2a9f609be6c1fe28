/-! THE MODEL'S RUNS do what a run is -/
def XD (P : PT) (m : Nat) : Prop := (∀ k, tt 9 k ≠ 0 → P m k ≠ m) ∧ ∀ k j, tt 9 k ≠ 0 → tt 9 j ≠ 0 → k ≠ j → P m k ≠ P m j
def XRow (P : PT) (I : IT) (m cf af : Nat) (r : Rw) : Prop := I m cf = (r.1 : Int) ∧ ∀ j, j < r.1 → I (P m af) j = r.2 j
def XPg (P : PT) (I : IT) (m sl : Nat) (g : Pg) : Prop := I (P m 1) sl = (g.1 : Int) ∧ ∀ j, j < g.1 → I (P m 2) (16 * sl + j) = g.2.1 j ∧ I (P m 3) (16 * sl + j) = g.2.2 j
def XIn (P : PT) (I : IT) (m i : Nat) (r : Rw) : Prop := I (P m 4) i = (r.1 : Int) ∧ ∀ j, j < r.1 → I (P m 5) (4 * i + j) = r.2 j
/-- what a run of the model writes -/
def FrX (P : PT) (m : Nat) (I I' : IT) : Prop := (∀ b, b ≠ m → b ≠ P m 28 → b ≠ P m 29 → I' b = I b) ∧ ∀ j, j ≠ 25 → j ≠ 26 → j ≠ 27 → j ≠ 30 → I' m j = I m j
theorem FrX.rf {P : PT} {m : Nat} {I : IT} : FrX P m I I := ⟨fun _ _ _ _ => rfl, fun _ _ _ _ _ => rfl⟩
theorem FrX.tr {P : PT} {m : Nat} {I I1 I2 : IT} (h : FrX P m I I1) (h2 : FrX P m I1 I2) : FrX P m I I2 := ⟨fun b g1 g2 g3 => (h2.1 b g1 g2 g3).trans (h.1 b g1 g2 g3), fun j g1 g2 g3 g4 => (h2.2 j g1 g2 g3 g4).trans (h.2 j g1 g2 g3 g4)⟩
theorem FrX.m {P : PT} {m k : Nat} {I : IT} {v : Int} (hk : k = 25 ∨ k = 26 ∨ k = 27 ∨ k = 30) : FrX P m I (up I m k v) := ⟨fun b g1 _ _ => up_b g1, fun j g1 g2 g3 g4 => up_k _ _ _ _ (by omega)⟩
theorem FrX.a {P : PT} {m k : Nat} {I : IT} {v : Int} {j : Nat} (hX : XD P m) (hk : k = 28 ∨ k = 29) : FrX P m I (up I (P m k) j v) := by
  refine ⟨fun b _ g2 g3 => up_b (by rcases hk with rfl | rfl <;> assumption), fun i _ _ _ _ => ?_⟩
  rw [up_b (Ne.symm (hX.1 k (by rcases hk with rfl | rfl <;> decide)))]
theorem XPg.fr {P : PT} {m sl : Nat} {I I' : IT} {g : Pg} (hX : XD P m) (h : XPg P I m sl g) (hf : FrX P m I I') : XPg P I' m sl g := by
  have e1 : I' (P m 1) = I (P m 1) := hf.1 _ (hX.1 1 (by decide)) (hX.2 1 28 (by decide) (by decide) (by decide)) (hX.2 1 29 (by decide) (by decide) (by decide))
  have e2 : I' (P m 2) = I (P m 2) := hf.1 _ (hX.1 2 (by decide)) (hX.2 2 28 (by decide) (by decide) (by decide)) (hX.2 2 29 (by decide) (by decide) (by decide))
  have e3 : I' (P m 3) = I (P m 3) := hf.1 _ (hX.1 3 (by decide)) (hX.2 3 28 (by decide) (by decide) (by decide)) (hX.2 3 29 (by decide) (by decide) (by decide))
  unfold XPg
  rw [e1, e2, e3]
  exact h
theorem XIn.fr {P : PT} {m i : Nat} {I I' : IT} {r : Rw} (hX : XD P m) (h : XIn P I m i r) (hf : FrX P m I I') : XIn P I' m i r := by
  have e1 : I' (P m 4) = I (P m 4) := hf.1 _ (hX.1 4 (by decide)) (hX.2 4 28 (by decide) (by decide) (by decide)) (hX.2 4 29 (by decide) (by decide) (by decide))
  have e2 : I' (P m 5) = I (P m 5) := hf.1 _ (hX.1 5 (by decide)) (hX.2 5 28 (by decide) (by decide) (by decide)) (hX.2 5 29 (by decide) (by decide) (by decide))
  unfold XIn
  rw [e1, e2]
  exact h
def XRep (P : PT) (I : IT) (m : Nat) (s : MS) (k : Nat) : Prop := XRow P I m 30 29 s.st ∧ XRow P I m 27 28 s.ou ∧ I m 26 = (k : Int) ∧ I m 25 = 0
def XSt (P : PT) (I' : IT) (m k : Nat) (s : MS) (q : Int × MS) : Prop := I' m 25 = q.1 ∧ I' m 26 = (k : Int) ∧ (q.1 = 0 → XRep P I' m q.2 k) ∧ (q.1 ≠ 0 → XRow P I' m 27 28 s.ou)
section XR1
variable {K : KT} {P : PT} {I : IT} {m k : Nat} {s : MS}
theorem XRow.up {cf af : Nat} {r : Rw} (h : XRow P I m cf af r) {j : Nat} {v : Int} (hj : cf ≠ j) (hX : P m af ≠ m) : XRow P (up I m j v) m cf af r := ⟨by rw [up_k _ _ _ _ hj]; exact h.1, fun i hi => by rw [up_b hX]; exact h.2 i hi⟩
theorem x_fail (hX : XD P m) (h : XRep P I m s k) (e : Int) (he : e ≠ 0) (s2 : MS) (f : FrX P m I I) : XSt P (up I m 25 e) m k s (e, s2) ∧ FrX P m I (up I m 25 e) :=
  ⟨⟨up_s _ _ _ _, by rw [up_k _ _ _ _ (by decide)]; exact h.2.2.1, fun h0 => absurd h0 he, fun _ => h.2.1.up (by decide) (hX.1 28 (by decide))⟩, FrX.m (Or.inl rfl)⟩
end XR1
