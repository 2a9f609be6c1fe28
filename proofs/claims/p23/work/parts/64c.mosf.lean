/-! most: what the calls answer, behind the judging -/
theorem fSf34 : enB (gJb fB 60) 5 0 (-1) 100 12 = true := by decide +kernel
theorem fSf35 : enB (gJb fB 60) 4 0 (-1) 0 0 = true := by decide +kernel
def fS34 : Hl := (actQ (gJb fB 60) 16 2 5 0).2.2
theorem fSf36 : outI (actQ (gJb fB 60) 16 2 5 0) = (-7000003) ∧ (actQ (gJb fB 60) 16 2 5 0).2.2 = fS34 := ⟨by decide +kernel, rfl⟩
def fS35 : Hl := (actQ fS34 16 5 53 0).2.2
theorem fSf37 : outI (actQ fS34 16 5 53 0) = (-7000003) ∧ (actQ fS34 16 5 53 0).2.2 = fS35 := ⟨by decide +kernel, rfl⟩
theorem fSf38 : bdB fS35 0 0 0 3 0 0 = true := by decide +kernel
theorem fSf39 : bdB fS35 7 1 7 3 0 0 = true := by decide +kernel
def fS36 : Hl := (passS fS35 300).2.2
theorem fSf40 : passS fS35 300 = (0, 300, fS36) := of0 (by decide +kernel) rfl
def fS37 : Hl := (passS fS36 300).2.2
theorem fSf41 : passS fS36 300 = (0, 600, fS37) := of0 (by decide +kernel) rfl
def fS38 : Hl := (passS fS37 300).2.2
theorem fSf42 : passS fS37 300 = (0, 900, fS38) := of0 (by decide +kernel) rfl
def fS39 : Hl := (passS fS38 300).2.2
theorem fSf43 : passS fS38 300 = (0, 1200, fS39) := of0 (by decide +kernel) rfl
def fS40 : Hl := (passS fS39 300).2.2
theorem fSf44 : passS fS39 300 = (0, 1500, fS40) := of0 (by decide +kernel) rfl
def fS41 : Hl := (passS fS40 300).2.2
theorem fSf45 : passS fS40 300 = (0, 1800, fS41) := of0 (by decide +kernel) rfl
def fS42 : Hl := (passS fS41 300).2.2
theorem fSf46 : passS fS41 300 = (0, 2100, fS42) := of0 (by decide +kernel) rfl
def fS43 : Hl := (passS fS42 300).2.2
theorem fSf47 : passS fS42 300 = (0, 2400, fS43) := of0 (by decide +kernel) rfl
def fS44 : Hl := (passS fS43 300).2.2
theorem fSf48 : passS fS43 300 = (0, 2700, fS44) := of0 (by decide +kernel) rfl
def fS45 : Hl := (passS fS44 300).2.2
theorem fSf49 : passS fS44 300 = (0, 3000, fS45) := of0 (by decide +kernel) rfl
def fS46 : Hl := (passS fS45 300).2.2
theorem fSf50 : passS fS45 300 = (0, 3300, fS46) := of0 (by decide +kernel) rfl
def fS47 : Hl := (passS fS46 300).2.2
theorem fSf51 : passS fS46 300 = (0, 3600, fS47) := of0 (by decide +kernel) rfl
def fS48 : Hl := (passS fS47 300).2.2
theorem fSf52 : passS fS47 300 = (0, 3900, fS48) := of0 (by decide +kernel) rfl
def fS49 : Hl := (passS fS48 300).2.2
theorem fSf53 : passS fS48 300 = (0, 4200, fS49) := of0 (by decide +kernel) rfl
def fS50 : Hl := (passS fS49 300).2.2
theorem fSf54 : passS fS49 300 = (0, 4500, fS50) := of0 (by decide +kernel) rfl
def fS51 : Hl := (passS fS50 300).2.2
theorem fSf55 : passS fS50 300 = (0, 4800, fS51) := of0 (by decide +kernel) rfl
def fS52 : Hl := (passS fS51 300).2.2
theorem fSf56 : passS fS51 300 = (0, 5100, fS52) := of0 (by decide +kernel) rfl
def fS53 : Hl := (passS fS52 300).2.2
theorem fSf57 : passS fS52 300 = (0, 5400, fS53) := of0 (by decide +kernel) rfl
def fS54 : Hl := (passS fS53 300).2.2
theorem fSf58 : passS fS53 300 = (0, 5700, fS54) := of0 (by decide +kernel) rfl
def fS55 : Hl := (passS fS54 300).2.2
theorem fSf59 : passS fS54 300 = (0, 6000, fS55) := of0 (by decide +kernel) rfl
def fS56 : Hl := (passS fS55 300).2.2
theorem fSf60 : passS fS55 300 = (0, 6300, fS56) := of0 (by decide +kernel) rfl
def fS57 : Hl := (passS fS56 300).2.2
theorem fSf61 : passS fS56 300 = (0, 6600, fS57) := of0 (by decide +kernel) rfl
def fS58 : Hl := (passS fS57 300).2.2
theorem fSf62 : passS fS57 300 = (0, 6900, fS58) := of0 (by decide +kernel) rfl
def fS59 : Hl := (passS fS58 300).2.2
theorem fSf63 : passS fS58 300 = (0, 7200, fS59) := of0 (by decide +kernel) rfl
def fS60 : Hl := (passS fS59 300).2.2
theorem fSf64 : passS fS59 300 = (0, 7500, fS60) := of0 (by decide +kernel) rfl
def fS61 : Hl := (passS fS60 300).2.2
theorem fSf65 : passS fS60 300 = (0, 7800, fS61) := of0 (by decide +kernel) rfl
def fS62 : Hl := (passS fS61 300).2.2
theorem fSf66 : passS fS61 300 = (0, 8100, fS62) := of0 (by decide +kernel) rfl
def fS63 : Hl := (passS fS62 300).2.2
theorem fSf67 : passS fS62 300 = (0, 8400, fS63) := of0 (by decide +kernel) rfl
def fS64 : Hl := (passS fS63 300).2.2
theorem fSf68 : passS fS63 300 = (0, 8700, fS64) := of0 (by decide +kernel) rfl
def fS65 : Hl := (passS fS64 300).2.2
theorem fSf69 : passS fS64 300 = (0, 9000, fS65) := of0 (by decide +kernel) rfl
def fS66 : Hl := (passS fS65 300).2.2
theorem fSf70 : passS fS65 300 = (0, 9300, fS66) := of0 (by decide +kernel) rfl
def fS67 : Hl := (passS fS66 300).2.2
theorem fSf71 : passS fS66 300 = (0, 9600, fS67) := of0 (by decide +kernel) rfl
def fS68 : Hl := (passS fS67 300).2.2
theorem fSf72 : passS fS67 300 = (0, 9900, fS68) := of0 (by decide +kernel) rfl
def fS69 : Hl := (actQ fS68 9 100 0 0).2.2
theorem fSf73 : outI (actQ fS68 9 100 0 0) = (-7000003) ∧ (actQ fS68 9 100 0 0).2.2 = fS69 := ⟨by decide +kernel, rfl⟩
def fS70 : Hl := (passS fS69 99).2.2
theorem fSf74 : passS fS69 99 = (0, 9999, fS70) := of0 (by decide +kernel) rfl
def fS71 : Hl := (actQ fS70 9 1 0 0).2.2
theorem fSf75 : outI (actQ fS70 9 1 0 0) = (-7000003) ∧ (actQ fS70 9 1 0 0).2.2 = fS71 := ⟨by decide +kernel, rfl⟩
theorem fSf76 : (6 : Int) = (fS71.np : Int) ∧ (60 : Int) = (fS71.ne : Int) := by decide +kernel
