/-! boards: what the calls answer -/
def bS1 : Hl := (judgeS oS63).2.2
theorem bSf1 : judgeS oS63 = (0, 0, bS1) := of0 (by decide +kernel) rfl
def bS2 : Hl := (judgeS bS1).2.2
theorem bSf2 : judgeS bS1 = (0, 3, bS2) := of0 (by decide +kernel) rfl
def bS3 : Hl := (judgeS bS2).2.2
theorem bSf3 : judgeS bS2 = (0, 4, bS3) := of0 (by decide +kernel) rfl
def bS4 : Hl := (judgeS bS3).2.2
theorem bSf4 : judgeS bS3 = (0, 1, bS4) := of0 (by decide +kernel) rfl
def bS5 : Hl := (judgeS bS4).2.2
theorem bSf5 : judgeS bS4 = (0, 2, bS5) := of0 (by decide +kernel) rfl
def bS6 : Hl := (judgeS bS5).2.2
theorem bSf6 : judgeS bS5 = (0, 5, bS6) := of0 (by decide +kernel) rfl
def bS7 : Hl := (judgeS bS6).2.2
theorem bSf7 : judgeS bS6 = (0, (-1), bS7) := of0 (by decide +kernel) rfl
theorem bSf8 : enB bS7 0 0 (-1) 90 4 = true := by decide +kernel
theorem bSf9 : enB bS7 5 0 (-1) 90 4 = true := by decide +kernel
def bS8 : Hl := (frzQ bS7 10).2.2
theorem bSf10 : (frzQ bS7 10).1 = 0 := by decide +kernel
theorem bSf11 : bdB bS8 2 1 0 1 0 0 = true := by decide +kernel
theorem bSf12 : bdB bS8 3 1 3 0 0 0 = true := by decide +kernel
theorem bSf13 : bdB bS8 3 0 1 1 50 10 = true := by decide +kernel
def bS9 : Hl := (revealS bS8).2.2
theorem bSf14 : revealS bS8 = (0, 50, bS9) := of0 (by decide +kernel) rfl
theorem bSf15 : boardS bS9 5 1 0 = (0, 5, bS9) := of0 (by decide +kernel) board_st
def bS10 : Hl := (revealS bS9).2.2
theorem bSf16 : revealS bS9 = (0, 40, bS10) := of0 (by decide +kernel) rfl
def bS11 : Hl := (revealS bS10).2.2
theorem bSf17 : revealS bS10 = (0, 30, bS11) := of0 (by decide +kernel) rfl
theorem bSf18 : bdB bS11 3 1 1 1 50 10 = true := by decide +kernel
def bS12 : Hl := (revealS bS11).2.2
theorem bSf19 : revealS bS11 = (0, (-1), bS12) := of0 (by decide +kernel) rfl
def bS13 : Hl := (frzQ bS12 11).2.2
theorem bSf20 : (frzQ bS12 11).1 = 0 := by decide +kernel
theorem bSf21 : bdB bS13 3 1 1 1 50 10 = true := by decide +kernel
def bS14 : Hl := (revealS bS13).2.2
theorem bSf22 : revealS bS13 = (0, (-1), bS14) := of0 (by decide +kernel) rfl
def bS15 : Hl := (frzQ bS14 0).2.2
theorem bSf23 : (frzQ bS14 0).1 = 0 := by decide +kernel
theorem bSf24 : bdB bS15 2 1 2 0 0 0 = true := by decide +kernel
def bS16 : Hl := (revealS bS15).2.2
theorem bSf25 : revealS bS15 = (0, 50, bS16) := of0 (by decide +kernel) rfl
def bS17 : Hl := (revealS bS16).2.2
theorem bSf26 : revealS bS16 = (0, 40, bS17) := of0 (by decide +kernel) rfl
def bS18 : Hl := (revealS bS17).2.2
theorem bSf27 : revealS bS17 = (0, 30, bS18) := of0 (by decide +kernel) rfl
theorem bSf28 : bdB bS18 3 1 0 1 50 10 = true := by decide +kernel
def bS19 : Hl := (revealS bS18).2.2
theorem bSf29 : revealS bS18 = (0, 20, bS19) := of0 (by decide +kernel) rfl
theorem bSf30 : bdB bS19 2 1 0 1 0 0 = true := by decide +kernel
def bS20 : Hl := (revealS bS19).2.2
theorem bSf31 : revealS bS19 = (0, (-1), bS20) := of0 (by decide +kernel) rfl
def bS21 : Hl := (frzQ bS20 (-1)).2.2
theorem bSf32 : (frzQ bS20 (-1)).1 = 0 := by decide +kernel
theorem bSf33 : bdB bS21 3 1 1 1 50 10 = true := by decide +kernel
def bS22 : Hl := (passS bS21 300).2.2
theorem bSf34 : passS bS21 300 = (0, 310, bS22) := of0 (by decide +kernel) rfl
theorem bSf35 : placeAnewS bS22 2 = (0, 0, bS22) := of0 (by decide +kernel) placeAnew_st
theorem bSf36 : placeAnewS bS22 3 = (0, 1, bS22) := of0 (by decide +kernel) placeAnew_st
theorem bSf37 : placeAnewS bS22 5 = (0, 5, bS22) := of0 (by decide +kernel) placeAnew_st
theorem bSf38 : (1 : Int) = (bS22.np : Int) ∧ (7 : Int) = (bS22.ne : Int) := by decide +kernel
