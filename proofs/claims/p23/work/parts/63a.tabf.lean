/-! tables: what the calls answer -/
def tS1 : Hl := (problemS s0 3 0).2.2
theorem tSf1 : problemS s0 3 0 = (0, 0, tS1) := of0 (by decide +kernel) rfl
def tS2 : Hl := (testS tS1 0 3).2.2
theorem tSf2 : testS tS1 0 3 = (0, 0, tS2) := of0 (by decide +kernel) rfl
theorem tSf3 : answerS tS2 0 0 0 = (0, 0, tS2) := of0 (by decide +kernel) answer_st
def tS3 : Hl := cdT 5 tS2 99050
theorem tSf4 : cdB 5 tS2 99050 = true ∧ cdV 5 tS2 99050 0 = 5 ∧ cdT 5 tS2 99050 = tS3 := ⟨by decide +kernel, by decide +kernel, rfl⟩
def tS4 : Hl := (clearS tS3).2.2
theorem tSf5 : clearS tS3 = (0, 5, tS4) := of0 (by decide +kernel) rfl
def tS5 : Hl := cdT 4 tS4 9950
theorem tSf6 : cdB 4 tS4 9950 = true ∧ cdV 4 tS4 9950 0 = 4 ∧ cdT 4 tS4 9950 = tS5 := ⟨by decide +kernel, by decide +kernel, rfl⟩
def tS6 : Hl := (problemS tS5 4 1).2.2
theorem tSf7 : problemS tS5 4 1 = (0, 1, tS6) := of0 (by decide +kernel) rfl
def tS7 : Hl := (inputS tS6 6).2.2
theorem tSf8 : inputS tS6 6 = (0, 1, tS7) := of0 (by decide +kernel) rfl
def tS8 : Hl := (testS tS7 1 0).2.2
theorem tSf9 : testS tS7 1 0 = (0, 0, tS8) := of0 (by decide +kernel) rfl
theorem tSf10 : answerS tS8 1 0 1 = (0, 6, tS8) := of0 (by decide +kernel) answer_st
def tS9 : Hl := (codeS tS8 1 1).2.2
theorem tSf11 : codeS tS8 1 1 = (0, 1, tS9) := of0 (by decide +kernel) rfl
def tS10 : Hl := (codeS tS9 9 0).2.2
theorem tSf12 : codeS tS9 9 0 = (0, 2, tS10) := of0 (by decide +kernel) rfl
def tS11 : Hl := (codeS tS10 1 2).2.2
theorem tSf13 : codeS tS10 1 2 = (0, 3, tS11) := of0 (by decide +kernel) rfl
def tS12 : Hl := (codeS tS11 9 0).2.2
theorem tSf14 : codeS tS11 9 0 = (0, 4, tS12) := of0 (by decide +kernel) rfl
def tS13 : Hl := (problemS tS12 500 1).2.2
theorem tSf15 : problemS tS12 500 1 = (0, 2, tS13) := of0 (by decide +kernel) rfl
def tS14 : Hl := (codeS tS13 1 7).2.2
theorem tSf16 : codeS tS13 1 7 = (0, 1, tS14) := of0 (by decide +kernel) rfl
def tS15 : Hl := (codeS tS14 9 0).2.2
theorem tSf17 : codeS tS14 9 0 = (0, 2, tS15) := of0 (by decide +kernel) rfl
def tS16 : Hl := (codeS tS15 1 5).2.2
theorem tSf18 : codeS tS15 1 5 = (0, 3, tS16) := of0 (by decide +kernel) rfl
def tS17 : Hl := (codeS tS16 9 0).2.2
theorem tSf19 : codeS tS16 9 0 = (0, 4, tS17) := of0 (by decide +kernel) rfl
def tS18 : Hl := (enterS tS17 0 1).2.2
theorem tSf20 : enterS tS17 0 1 = (0, 0, tS18) := of0 (by decide +kernel) rfl
def tS19 : Hl := (codeS tS18 1 7).2.2
theorem tSf21 : codeS tS18 1 7 = (0, 1, tS19) := of0 (by decide +kernel) rfl
def tS20 : Hl := (codeS tS19 9 0).2.2
theorem tSf22 : codeS tS19 9 0 = (0, 2, tS20) := of0 (by decide +kernel) rfl
def tS21 : Hl := (codeS tS20 1 8).2.2
theorem tSf23 : codeS tS20 1 8 = (0, 3, tS21) := of0 (by decide +kernel) rfl
def tS22 : Hl := (codeS tS21 9 0).2.2
theorem tSf24 : codeS tS21 9 0 = (0, 4, tS22) := of0 (by decide +kernel) rfl
def tS23 : Hl := (enterS tS22 1 1).2.2
theorem tSf25 : enterS tS22 1 1 = (0, 1, tS23) := of0 (by decide +kernel) rfl
def tS24 : Hl := cdT 2 tS23 90
theorem tSf26 : cdB 2 tS23 90 = true ∧ cdV 2 tS23 90 0 = 2 ∧ cdT 2 tS23 90 = tS24 := ⟨by decide +kernel, by decide +kernel, rfl⟩
def tS25 : Hl := (enterS tS24 2 1).2.2
theorem tSf27 : enterS tS24 2 1 = (0, 2, tS25) := of0 (by decide +kernel) rfl
def tS26 : Hl := cdT 4 tS25 9950
theorem tSf28 : cdB 4 tS25 9950 = true ∧ cdV 4 tS25 9950 0 = 4 ∧ cdT 4 tS25 9950 = tS26 := ⟨by decide +kernel, by decide +kernel, rfl⟩
def tS27 : Hl := (codeS tS26 8 5).2.2
theorem tSf29 : codeS tS26 8 5 = (0, 5, tS27) := of0 (by decide +kernel) rfl
def tS28 : Hl := (enterS tS27 3 1).2.2
theorem tSf30 : enterS tS27 3 1 = (0, 3, tS28) := of0 (by decide +kernel) rfl
def tS29 : Hl := (enterS tS28 4 0).2.2
theorem tSf31 : enterS tS28 4 0 = (0, 4, tS29) := of0 (by decide +kernel) rfl
def tS30 : Hl := cdT 1 tS29 9
theorem tSf32 : cdB 1 tS29 9 = true ∧ cdV 1 tS29 9 0 = 1 ∧ cdT 1 tS29 9 = tS30 := ⟨by decide +kernel, by decide +kernel, rfl⟩
def tS31 : Hl := (enterS tS30 5 0).2.2
theorem tSf33 : enterS tS30 5 0 = (0, 5, tS31) := of0 (by decide +kernel) rfl
def tS32 : Hl := (codeS tS31 1 1).2.2
theorem tSf34 : codeS tS31 1 1 = (0, 1, tS32) := of0 (by decide +kernel) rfl
def tS33 : Hl := (codeS tS32 9 0).2.2
theorem tSf35 : codeS tS32 9 0 = (0, 2, tS33) := of0 (by decide +kernel) rfl
def tS34 : Hl := (enterS tS33 6 0).2.2
theorem tSf36 : enterS tS33 6 0 = (0, 6, tS34) := of0 (by decide +kernel) rfl
def tS35 : Hl := (enterS tS34 7 2).2.2
theorem tSf37 : enterS tS34 7 2 = (0, 7, tS35) := of0 (by decide +kernel) rfl
def tS36 : Hl := (judgeS tS35).2.2
theorem tSf38 : judgeS tS35 = (0, 0, tS36) := of0 (by decide +kernel) rfl
def tS37 : Hl := (judgeS tS36).2.2
theorem tSf39 : judgeS tS36 = (0, 1, tS37) := of0 (by decide +kernel) rfl
def tS38 : Hl := (judgeS tS37).2.2
theorem tSf40 : judgeS tS37 = (0, 2, tS38) := of0 (by decide +kernel) rfl
def tS39 : Hl := (judgeS tS38).2.2
theorem tSf41 : judgeS tS38 = (0, 3, tS39) := of0 (by decide +kernel) rfl
def tS40 : Hl := (judgeS tS39).2.2
theorem tSf42 : judgeS tS39 = (0, 4, tS40) := of0 (by decide +kernel) rfl
def tS41 : Hl := (judgeS tS40).2.2
theorem tSf43 : judgeS tS40 = (0, 5, tS41) := of0 (by decide +kernel) rfl
def tS42 : Hl := (judgeS tS41).2.2
theorem tSf44 : judgeS tS41 = (0, 6, tS42) := of0 (by decide +kernel) rfl
def tS43 : Hl := (judgeS tS42).2.2
theorem tSf45 : judgeS tS42 = (0, 7, tS43) := of0 (by decide +kernel) rfl
theorem tSf46 : enB tS43 0 0 (-1) 25 1 = true := by decide +kernel
theorem tSf47 : enB tS43 1 1 0 0 1 = true := by decide +kernel
theorem tSf48 : enB tS43 2 1 0 0 1 = true := by decide +kernel
theorem tSf49 : enB tS43 3 2 0 0 1 = true := by decide +kernel
theorem tSf50 : enB tS43 4 0 (-1) 25 1 = true := by decide +kernel
theorem tSf51 : enB tS43 5 4 0 0 1 = true := by decide +kernel
theorem tSf52 : enB tS43 6 1 0 0 1 = true := by decide +kernel
theorem tSf53 : enB tS43 7 0 (-1) 0 0 = true := by decide +kernel
theorem tSf54 : bdB tS43 4 0 1 1 0 0 = true := by decide +kernel
theorem tSf55 : bdB tS43 7 0 2 1 0 0 = true := by decide +kernel
theorem tSf56 : bdB tS43 1 0 3 0 0 0 = true := by decide +kernel
def tS44 : Hl := (codeS tS43 8 0).2.2
theorem tSf57 : codeS tS43 8 0 = (0, 1, tS44) := of0 (by decide +kernel) rfl
def tS45 : Hl := (actQ tS44 6 1 0 0).2.2
theorem tSf58 : outI (actQ tS44 6 1 0 0) = (-7000003) ∧ (actQ tS44 6 1 0 0).2.2 = tS45 := ⟨by decide +kernel, rfl⟩
theorem tSf59 : callRun tS45 9 0 = (0, 2, tS45) := of0 (by decide +kernel) run_st
def tS46 : Hl := (clearS tS45).2.2
theorem tSf60 : clearS tS45 = (0, 1, tS46) := of0 (by decide +kernel) rfl
def tS47 : Hl := (codeS tS46 1 5).2.2
theorem tSf61 : codeS tS46 1 5 = (0, 1, tS47) := of0 (by decide +kernel) rfl
def tS48 : Hl := cdT 3 tS47 995
theorem tSf62 : cdB 3 tS47 995 = true ∧ cdV 3 tS47 995 0 = 4 ∧ cdT 3 tS47 995 = tS48 := ⟨by decide +kernel, by decide +kernel, rfl⟩
def tS49 : Hl := (mendS tS48 1 0).2.2
theorem tSf63 : mendS tS48 1 0 = (0, 2, tS49) := of0 (by decide +kernel) rfl
theorem tSf64 : answerS tS49 1 0 0 = (0, 5, tS49) := of0 (by decide +kernel) answer_st
theorem tSf65 : answerS tS49 1 0 1 = (0, 5, tS49) := of0 (by decide +kernel) answer_st
theorem tSf66 : answerS tS49 1 0 2 = (0, 0, tS49) := of0 (by decide +kernel) answer_st
def tS50 : Hl := (clearS tS49).2.2
theorem tSf67 : clearS tS49 = (0, 0, tS50) := of0 (by decide +kernel) rfl
def tS51 : Hl := (rejudgeS tS50 1).2.2
theorem tSf68 : rejudgeS tS50 1 = (0, 4, tS51) := of0 (by decide +kernel) rfl
def tS52 : Hl := (judgeS tS51).2.2
theorem tSf69 : judgeS tS51 = (0, 0, tS52) := of0 (by decide +kernel) rfl
theorem tSf70 : enB tS52 0 1 0 0 2 = true := by decide +kernel
theorem tSf71 : boardS tS52 0 0 1 = (0, 0, tS52) := of0 (by decide +kernel) board_st
theorem tSf72 : placeAnewS tS52 0 = (0, 2, tS52) := of0 (by decide +kernel) placeAnew_st
def tS53 : Hl := (passS tS52 7).2.2
theorem tSf73 : passS tS52 7 = (0, 7, tS53) := of0 (by decide +kernel) rfl
def tS54 : Hl := (enterS tS53 0 2).2.2
theorem tSf74 : enterS tS53 0 2 = (0, 8, tS54) := of0 (by decide +kernel) rfl
def tS55 : Hl := (enterS tS54 0 2).2.2
theorem tSf75 : enterS tS54 0 2 = (0, 9, tS55) := of0 (by decide +kernel) rfl
def tS56 : Hl := (codeS tS55 1 1).2.2
theorem tSf76 : codeS tS55 1 1 = (0, 1, tS56) := of0 (by decide +kernel) rfl
def tS57 : Hl := (codeS tS56 9 0).2.2
theorem tSf77 : codeS tS56 9 0 = (0, 2, tS57) := of0 (by decide +kernel) rfl
def tS58 : Hl := (codeS tS57 1 2).2.2
theorem tSf78 : codeS tS57 1 2 = (0, 3, tS58) := of0 (by decide +kernel) rfl
def tS59 : Hl := (codeS tS58 9 0).2.2
theorem tSf79 : codeS tS58 9 0 = (0, 4, tS59) := of0 (by decide +kernel) rfl
def tS60 : Hl := (enterS tS59 0 2).2.2
theorem tSf80 : enterS tS59 0 2 = (0, 10, tS60) := of0 (by decide +kernel) rfl
def tS61 : Hl := (inputS tS60 9).2.2
theorem tSf81 : inputS tS60 9 = (0, 1, tS61) := of0 (by decide +kernel) rfl
def tS62 : Hl := (testS tS61 2 2).2.2
theorem tSf82 : testS tS61 2 2 = (0, 0, tS62) := of0 (by decide +kernel) rfl
def tS63 : Hl := (passS tS62 40).2.2
theorem tSf83 : passS tS62 40 = (0, 47, tS63) := of0 (by decide +kernel) rfl
def tS64 : Hl := (codeS tS63 1 2).2.2
theorem tSf84 : codeS tS63 1 2 = (0, 1, tS64) := of0 (by decide +kernel) rfl
def tS65 : Hl := (codeS tS64 9 0).2.2
theorem tSf85 : codeS tS64 9 0 = (0, 2, tS65) := of0 (by decide +kernel) rfl
def tS66 : Hl := (codeS tS65 1 1).2.2
theorem tSf86 : codeS tS65 1 1 = (0, 3, tS66) := of0 (by decide +kernel) rfl
def tS67 : Hl := (codeS tS66 9 0).2.2
theorem tSf87 : codeS tS66 9 0 = (0, 4, tS67) := of0 (by decide +kernel) rfl
def tS68 : Hl := (enterS tS67 4 2).2.2
theorem tSf88 : enterS tS67 4 2 = (0, 11, tS68) := of0 (by decide +kernel) rfl
def tS69 : Hl := (enterS tS68 7 0).2.2
theorem tSf89 : enterS tS68 7 0 = (0, 12, tS69) := of0 (by decide +kernel) rfl
def tS70 : Hl := (judgeS tS69).2.2
theorem tSf90 : judgeS tS69 = (0, 1, tS70) := of0 (by decide +kernel) rfl
def tS71 : Hl := (judgeS tS70).2.2
theorem tSf91 : judgeS tS70 = (0, 2, tS71) := of0 (by decide +kernel) rfl
def tS72 : Hl := (judgeS tS71).2.2
theorem tSf92 : judgeS tS71 = (0, 3, tS72) := of0 (by decide +kernel) rfl
def tS73 : Hl := (judgeS tS72).2.2
theorem tSf93 : judgeS tS72 = (0, 11, tS73) := of0 (by decide +kernel) rfl
def tS74 : Hl := (judgeS tS73).2.2
theorem tSf94 : judgeS tS73 = (0, 12, tS74) := of0 (by decide +kernel) rfl
def tS75 : Hl := (judgeS tS74).2.2
theorem tSf95 : judgeS tS74 = (0, 8, tS75) := of0 (by decide +kernel) rfl
def tS76 : Hl := (judgeS tS75).2.2
theorem tSf96 : judgeS tS75 = (0, 9, tS76) := of0 (by decide +kernel) rfl
def tS77 : Hl := (judgeS tS76).2.2
theorem tSf97 : judgeS tS76 = (0, 10, tS77) := of0 (by decide +kernel) rfl
def tS78 : Hl := (judgeS tS77).2.2
theorem tSf98 : judgeS tS77 = (0, (-1), tS78) := of0 (by decide +kernel) rfl
theorem tSf99 : enB tS78 8 5 0 0 1 = true := by decide +kernel
theorem tSf100 : enB tS78 10 0 (-1) 25 1 = true := by decide +kernel
theorem tSf101 : enB tS78 11 0 (-1) 25 1 = true := by decide +kernel
theorem tSf102 : bdB tS78 4 0 0 2 47 47 = true := by decide +kernel
theorem tSf103 : bdB tS78 7 0 1 2 47 47 = true := by decide +kernel
theorem tSf104 : bdB tS78 0 0 2 1 47 7 = true := by decide +kernel
theorem tSf105 : bdB tS78 1 0 3 0 0 0 = true := by decide +kernel
def tS79 : Hl := (rejudgeS tS78 2).2.2
theorem tSf106 : rejudgeS tS78 2 = (0, 1, tS79) := of0 (by decide +kernel) rfl
def tS80 : Hl := (judgeS tS79).2.2
theorem tSf107 : judgeS tS79 = (0, 7, tS80) := of0 (by decide +kernel) rfl
theorem tSf108 : enB tS80 7 5 0 0 1 = true := by decide +kernel
theorem tSf109 : bdB tS80 7 0 2 1 47 47 = true := by decide +kernel
theorem tSf110 : bdB tS80 0 0 1 1 47 7 = true := by decide +kernel
theorem tSf111 : (3 : Int) = (tS80.np : Int) ∧ (13 : Int) = (tS80.ne : Int) := by decide +kernel
