section XR2
variable {K : KT} {P : PT} {I : IT} {m k sl inp : Nat} {s : MS} {g : Pg} {r : Rw} {x3 x4 x5 : Int} {k26 : IT → Nat → Int → Int → Int → Int → Int → Option IT}
/-- what a step of the model comes to: on to the loop's head, with the new place -/
def XGo (P : PT) (I : IT) (m k sl inp : Nat) (s : MS) (x3 : Int) (k26 : IT → Nat → Int → Int → Int → Int → Int → Option IT) (z : Option IT) (q : Int × MS) : Prop :=
  ∃ (I' : IT) (a b : Int), z = k26 I' m sl inp x3 a b ∧ XSt P I' m k s q ∧ FrX P m I I' ∧ (q.1 = 0 → a = (q.2.nx : Int) ∧ b = (q.2.rd : Int))
theorem XSt.of {I' : IT} {s1 : MS} {q : Int × MS} (h : XSt P I' m k s1 q) (he : s1.ou = s.ou) : XSt P I' m k s q := ⟨h.1, h.2.1, h.2.2.1, fun h0 => by rw [← he]; exact h.2.2.2 h0⟩
theorem XRep.st30 (hX : XD P m) {n : Nat} {f : Nat → Int} {nx rd : Nat} {ou : Rw} {N : Nat} (h : XRep P I m (nx, rd, (N, f), ou) k) (hn : n ≤ N) {v : Int} (hv : v = (n : Int)) : XRep P (up I m 30 v) m (nx, rd, (n, f), ou) k :=
  ⟨⟨by rw [up_s]; exact hv, fun j hj => by rw [up_b (hX.1 29 (by decide))]; exact h.1.2 j (Nat.lt_of_lt_of_le hj hn)⟩, h.2.1.up (by decide) (hX.1 28 (by decide)), by rw [up_k _ _ _ _ (by decide)]; exact h.2.2.1, by rw [up_k _ _ _ _ (by decide)]; exact h.2.2.2⟩
end XR2
