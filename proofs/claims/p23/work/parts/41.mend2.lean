section MF1
variable {tg : Tg} {K : KT} {P : PT} {I : IT} {x m a b t i c p : Nat} {s : Hl} {ks : List Nat}
/-- the places of one program of the model -/
def wS (sl k j : Nat) : Prop := k = 1 ∧ j = sl ∨ (k = 2 ∨ k = 3) ∧ 16 * sl ≤ j ∧ j < 16 * sl + 16
end MF1
