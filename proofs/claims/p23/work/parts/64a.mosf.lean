/-! most: what the calls answer, up to the entries -/
def fS1 : Hl := (actQ s0 3 500 0 0).2.2
theorem fSf1 : outI (actQ s0 3 500 0 0) = 0 ∧ (actQ s0 3 500 0 0).2.2 = fS1 := ⟨by decide +kernel, rfl⟩
def fS2 : Hl := (actQ fS1 3 500 1 0).2.2
theorem fSf2 : outI (actQ fS1 3 500 1 0) = 1 ∧ (actQ fS1 3 500 1 0).2.2 = fS2 := ⟨by decide +kernel, rfl⟩
def fS3 : Hl := (actQ fS2 3 500 0 0).2.2
theorem fSf3 : outI (actQ fS2 3 500 0 0) = 2 ∧ (actQ fS2 3 500 0 0).2.2 = fS3 := ⟨by decide +kernel, rfl⟩
def fS4 : Hl := (actQ fS3 3 500 1 0).2.2
theorem fSf4 : outI (actQ fS3 3 500 1 0) = 3 ∧ (actQ fS3 3 500 1 0).2.2 = fS4 := ⟨by decide +kernel, rfl⟩
def fS5 : Hl := (actQ fS4 3 500 0 0).2.2
theorem fSf5 : outI (actQ fS4 3 500 0 0) = 4 ∧ (actQ fS4 3 500 0 0).2.2 = fS5 := ⟨by decide +kernel, rfl⟩
def fS6 : Hl := (actQ fS5 3 500 1 0).2.2
theorem fSf6 : outI (actQ fS5 3 500 1 0) = 5 ∧ (actQ fS5 3 500 1 0).2.2 = fS6 := ⟨by decide +kernel, rfl⟩
def fS7 : Hl := (actQ fS6 3 500 0 0).2.2
theorem fSf7 : outI (actQ fS6 3 500 0 0) = (-7000003) ∧ (actQ fS6 3 500 0 0).2.2 = fS7 := ⟨by decide +kernel, rfl⟩
def fS8 : Hl := (inputS fS7 0).2.2
theorem fSf8 : inputS fS7 0 = (0, 1, fS8) := of0 (by decide +kernel) rfl
def fS9 : Hl := (actQ fS8 4 5 0 0).2.2
theorem fSf9 : outI (actQ fS8 4 5 0 0) = 0 ∧ (actQ fS8 4 5 0 0).2.2 = fS9 := ⟨by decide +kernel, rfl⟩
def fS10 : Hl := (inputS fS9 1).2.2
theorem fSf10 : inputS fS9 1 = (0, 1, fS10) := of0 (by decide +kernel) rfl
def fS11 : Hl := (actQ fS10 4 5 1 0).2.2
theorem fSf11 : outI (actQ fS10 4 5 1 0) = 1 ∧ (actQ fS10 4 5 1 0).2.2 = fS11 := ⟨by decide +kernel, rfl⟩
def fS12 : Hl := (inputS fS11 2).2.2
theorem fSf12 : inputS fS11 2 = (0, 1, fS12) := of0 (by decide +kernel) rfl
def fS13 : Hl := (actQ fS12 4 5 2 0).2.2
theorem fSf13 : outI (actQ fS12 4 5 2 0) = 2 ∧ (actQ fS12 4 5 2 0).2.2 = fS13 := ⟨by decide +kernel, rfl⟩
def fS14 : Hl := (inputS fS13 3).2.2
theorem fSf14 : inputS fS13 3 = (0, 1, fS14) := of0 (by decide +kernel) rfl
def fS15 : Hl := (actQ fS14 4 5 3 0).2.2
theorem fSf15 : outI (actQ fS14 4 5 3 0) = 3 ∧ (actQ fS14 4 5 3 0).2.2 = fS15 := ⟨by decide +kernel, rfl⟩
def fS16 : Hl := (inputS fS15 4).2.2
theorem fSf16 : inputS fS15 4 = (0, 1, fS16) := of0 (by decide +kernel) rfl
def fS17 : Hl := (actQ fS16 4 5 0 0).2.2
theorem fSf17 : outI (actQ fS16 4 5 0 0) = 4 ∧ (actQ fS16 4 5 0 0).2.2 = fS17 := ⟨by decide +kernel, rfl⟩
def fS18 : Hl := (inputS fS17 5).2.2
theorem fSf18 : inputS fS17 5 = (0, 1, fS18) := of0 (by decide +kernel) rfl
def fS19 : Hl := (actQ fS18 4 5 1 0).2.2
theorem fSf19 : outI (actQ fS18 4 5 1 0) = 5 ∧ (actQ fS18 4 5 1 0).2.2 = fS19 := ⟨by decide +kernel, rfl⟩
def fS20 : Hl := (inputS fS19 6).2.2
theorem fSf20 : inputS fS19 6 = (0, 1, fS20) := of0 (by decide +kernel) rfl
def fS21 : Hl := (actQ fS20 4 5 2 0).2.2
theorem fSf21 : outI (actQ fS20 4 5 2 0) = 6 ∧ (actQ fS20 4 5 2 0).2.2 = fS21 := ⟨by decide +kernel, rfl⟩
def fS22 : Hl := (inputS fS21 7).2.2
theorem fSf22 : inputS fS21 7 = (0, 1, fS22) := of0 (by decide +kernel) rfl
def fS23 : Hl := (actQ fS22 4 5 3 0).2.2
theorem fSf23 : outI (actQ fS22 4 5 3 0) = 7 ∧ (actQ fS22 4 5 3 0).2.2 = fS23 := ⟨by decide +kernel, rfl⟩
def fS24 : Hl := (inputS fS23 8).2.2
theorem fSf24 : inputS fS23 8 = (0, 1, fS24) := of0 (by decide +kernel) rfl
def fS25 : Hl := (actQ fS24 4 5 0 0).2.2
theorem fSf25 : outI (actQ fS24 4 5 0 0) = 8 ∧ (actQ fS24 4 5 0 0).2.2 = fS25 := ⟨by decide +kernel, rfl⟩
def fS26 : Hl := (inputS fS25 0).2.2
theorem fSf26 : inputS fS25 0 = (0, 1, fS26) := of0 (by decide +kernel) rfl
def fS27 : Hl := (actQ fS26 4 5 1 0).2.2
theorem fSf27 : outI (actQ fS26 4 5 1 0) = 9 ∧ (actQ fS26 4 5 1 0).2.2 = fS27 := ⟨by decide +kernel, rfl⟩
def fS28 : Hl := (inputS fS27 1).2.2
theorem fSf28 : inputS fS27 1 = (0, 1, fS28) := of0 (by decide +kernel) rfl
def fS29 : Hl := (actQ fS28 4 5 2 0).2.2
theorem fSf29 : outI (actQ fS28 4 5 2 0) = 10 ∧ (actQ fS28 4 5 2 0).2.2 = fS29 := ⟨by decide +kernel, rfl⟩
def fS30 : Hl := (inputS fS29 2).2.2
theorem fSf30 : inputS fS29 2 = (0, 1, fS30) := of0 (by decide +kernel) rfl
def fS31 : Hl := (actQ fS30 4 5 3 0).2.2
theorem fSf31 : outI (actQ fS30 4 5 3 0) = 11 ∧ (actQ fS30 4 5 3 0).2.2 = fS31 := ⟨by decide +kernel, rfl⟩
def fS32 : Hl := (inputS fS31 3).2.2
theorem fSf32 : inputS fS31 3 = (0, 1, fS32) := of0 (by decide +kernel) rfl
def fS33 : Hl := (actQ fS32 4 5 0 0).2.2
theorem fSf33 : outI (actQ fS32 4 5 0 0) = (-7000003) ∧ (actQ fS32 4 5 0 0).2.2 = fS33 := ⟨by decide +kernel, rfl⟩
abbrev fB : Hl := fS33
