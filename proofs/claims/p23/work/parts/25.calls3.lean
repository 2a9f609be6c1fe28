theorem t0n : (0 : Int).toNat = 0 := rfl
theorem t72n : (72 : Int).toNat = 72 := rfl
section CL3
variable {tg : Tg} {K : KT} {P : PT} {I : IT} {x m a t i c : Nat} {s : Hl} {ks : List Nat}
end CL3
