abbrev wthk (off : Int) (r q : Rw) (k : Nat) : Prop := ∀ j, j < r.1 → k ≤ j → -off ≤ r.2 j - q.2 j ∧ r.2 j - q.2 j ≤ off
section DO1
variable {tg : Tg} {K : KT} {P : PT} {I : IT} {x m a b t i c : Nat} {s : Hl} {ks : List Nat}
theorem XRow.frX {r : Rw} (hX : XD P m) (h : XRow P I m 31 32 r) {I' : IT} (hf : FrX P m I I') : XRow P I' m 31 32 r := ⟨by rw [hf.2 31 (by decide) (by decide) (by decide) (by decide)]; exact h.1, fun j hj => by rw [hf.1 (P m 32) (hX.1 32 (by decide)) (hX.2 32 28 (by decide) (by decide) (by decide)) (hX.2 32 29 (by decide) (by decide) (by decide))]; exact h.2 j hj⟩
end DO1
