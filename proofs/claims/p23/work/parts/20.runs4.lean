section XR4
variable {K : KT} {P : PT} {I : IT} {m k sl inp : Nat} {s : MS} {g : Pg} {r : Rw}
theorem XRep.steps (hX : XD P m) (h : XRep P I m s k) {k2 : Nat} {v : Int} (hv : v = (k2 : Int)) : XRep P (up I m 26 v) m s k2 :=
  ⟨h.1.up (by decide) (hX.1 29 (by decide)), h.2.1.up (by decide) (hX.1 28 (by decide)), by rw [up_s]; exact hv, by rw [up_k _ _ _ _ (by decide)]; exact h.2.2.2⟩
end XR4
