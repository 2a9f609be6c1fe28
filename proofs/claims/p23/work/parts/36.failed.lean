section FF1
variable {tg : Tg} {K : KT} {P : PT} {I : IT} {x m a t i c e : Nat} {s : Hl} {ks : List Nat}
theorem ff_stop {b : Pb} {g : Pg} {k : Nat} (h : b.ff g k = -1) (hc : b.tryE g k ≠ 0) : ∀ q, k + 1 ≤ q → b.ff g q = (k : Int) := by
  have e : b.ff g (k + 1) = (k : Int) := by
    show (if b.ff g k = -1 then (if b.tryE g k = 0 then -1 else (k : Int)) else b.ff g k) = _
    rw [if_pos h, if_neg hc]
  intro q hq
  induction q with
  | zero => omega
  | succ q ih2 =>
    by_cases z : k + 1 = q + 1
    · rw [← z]; exact e
    · have := ih2 (by omega)
      show (if b.ff g q = -1 then _ else b.ff g q) = _
      rw [if_neg (by omega), this]
theorem ff_go {b : Pb} {g : Pg} {k : Nat} (h : b.ff g k = -1) (hc : b.tryE g k = 0) : b.ff g (k + 1) = -1 := by
  show (if b.ff g k = -1 then (if b.tryE g k = 0 then -1 else (k : Int)) else b.ff g k) = _
  rw [if_pos h, if_pos hc]
end FF1
