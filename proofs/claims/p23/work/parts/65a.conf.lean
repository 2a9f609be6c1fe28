/-! contest: what the calls answer -/
def oS1 : Hl := (judgeS s0).2.2
theorem oSf1 : judgeS s0 = (0, (-1), oS1) := of0 (by decide +kernel) rfl
def oS2 : Hl := (revealS oS1).2.2
theorem oSf2 : revealS oS1 = (0, (-1), oS2) := of0 (by decide +kernel) rfl
def oS3 : Hl := cdT 4 oS2 9200
theorem oSf3 : cdB 4 oS2 9200 = true ∧ cdV 4 oS2 9200 0 = 4 ∧ cdT 4 oS2 9200 = oS3 := ⟨by decide +kernel, by decide +kernel, rfl⟩
def oS4 : Hl := (inputS oS3 3).2.2
theorem oSf4 : inputS oS3 3 = (0, 1, oS4) := of0 (by decide +kernel) rfl
def oS5 : Hl := (inputS oS4 4).2.2
theorem oSf5 : inputS oS4 4 = (0, 2, oS5) := of0 (by decide +kernel) rfl
def oS6 : Hl := (problemS oS5 100 0).2.2
theorem oSf6 : problemS oS5 100 0 = (0, 0, oS6) := of0 (by decide +kernel) rfl
theorem oSf7 : callRun oS6 9 0 = (0, 0, oS6) := of0 (by decide +kernel) run_st
def oS7 : Hl := (testS oS6 0 0).2.2
theorem oSf8 : testS oS6 0 0 = (0, 0, oS7) := of0 (by decide +kernel) rfl
theorem oSf9 : answerS oS7 0 0 0 = (0, 7, oS7) := of0 (by decide +kernel) answer_st
theorem oSf10 : answerS oS7 0 0 1 = (0, 0, oS7) := of0 (by decide +kernel) answer_st
def oS8 : Hl := (inputS oS7 1).2.2
theorem oSf11 : inputS oS7 1 = (0, 1, oS8) := of0 (by decide +kernel) rfl
def oS9 : Hl := (inputS oS8 (-2)).2.2
theorem oSf12 : inputS oS8 (-2) = (0, 2, oS9) := of0 (by decide +kernel) rfl
def oS10 : Hl := (testS oS9 0 1).2.2
theorem oSf13 : testS oS9 0 1 = (0, 1, oS10) := of0 (by decide +kernel) rfl
theorem oSf14 : answerS oS10 0 1 0 = (0, (-1), oS10) := of0 (by decide +kernel) answer_st
def oS11 : Hl := (inputS oS10 5).2.2
theorem oSf15 : inputS oS10 5 = (0, 1, oS11) := of0 (by decide +kernel) rfl
def oS12 : Hl := (actQ oS11 4 0 0 0).2.2
theorem oSf16 : outI (actQ oS11 4 0 0 0) = (-7000003) ∧ (actQ oS11 4 0 0 0).2.2 = oS12 := ⟨by decide +kernel, rfl⟩
def oS13 : Hl := (clearS oS12).2.2
theorem oSf17 : clearS oS12 = (0, 0, oS13) := of0 (by decide +kernel) rfl
def oS14 : Hl := cdT 4 oS13 9200
theorem oSf18 : cdB 4 oS13 9200 = true ∧ cdV 4 oS13 9200 0 = 4 ∧ cdT 4 oS13 9200 = oS14 := ⟨by decide +kernel, by decide +kernel, rfl⟩
def oS15 : Hl := (enterS oS14 2 0).2.2
theorem oSf19 : enterS oS14 2 0 = (0, 0, oS15) := of0 (by decide +kernel) rfl
def oS16 : Hl := (passS oS15 10).2.2
theorem oSf20 : passS oS15 10 = (0, 10, oS16) := of0 (by decide +kernel) rfl
def oS17 : Hl := cdT 4 oS16 9300
theorem oSf21 : cdB 4 oS16 9300 = true ∧ cdV 4 oS16 9300 0 = 4 ∧ cdT 4 oS16 9300 = oS17 := ⟨by decide +kernel, by decide +kernel, rfl⟩
def oS18 : Hl := (enterS oS17 3 0).2.2
theorem oSf22 : enterS oS17 3 0 = (0, 1, oS18) := of0 (by decide +kernel) rfl
def oS19 : Hl := (enterS oS18 3 0).2.2
theorem oSf23 : enterS oS18 3 0 = (0, 2, oS19) := of0 (by decide +kernel) rfl
def oS20 : Hl := cdT 1 oS19 9
theorem oSf24 : cdB 1 oS19 9 = true ∧ cdV 1 oS19 9 0 = 1 ∧ cdT 1 oS19 9 = oS20 := ⟨by decide +kernel, by decide +kernel, rfl⟩
def oS21 : Hl := (enterS oS20 4 0).2.2
theorem oSf25 : enterS oS20 4 0 = (0, 3, oS21) := of0 (by decide +kernel) rfl
def oS22 : Hl := cdT 1 oS21 8
theorem oSf26 : cdB 1 oS21 8 = true ∧ cdV 1 oS21 8 0 = 1 ∧ cdT 1 oS21 8 = oS22 := ⟨by decide +kernel, by decide +kernel, rfl⟩
def oS23 : Hl := (enterS oS22 4 0).2.2
theorem oSf27 : enterS oS22 4 0 = (0, 4, oS23) := of0 (by decide +kernel) rfl
theorem oSf28 : enB oS23 0 (-1) (-1) 0 (-1) = true := by decide +kernel
theorem oSf29 : entryS oS23 1 4 = (0, 3, oS23) := of0 (by decide +kernel) entry_st
theorem oSf30 : entryS oS23 1 5 = (0, 0, oS23) := of0 (by decide +kernel) entry_st
theorem oSf31 : entryS oS23 1 6 = (0, 10, oS23) := of0 (by decide +kernel) entry_st
def oS24 : Hl := (judgeS oS23).2.2
theorem oSf32 : judgeS oS23 = (0, 0, oS24) := of0 (by decide +kernel) rfl
theorem oSf33 : enB oS24 0 0 (-1) 50 2 = true := by decide +kernel
def oS25 : Hl := (judgeS oS24).2.2
theorem oSf34 : judgeS oS24 = (0, 1, oS25) := of0 (by decide +kernel) rfl
theorem oSf35 : enB oS25 1 1 0 0 2 = true := by decide +kernel
def oS26 : Hl := (judgeS oS25).2.2
theorem oSf36 : judgeS oS25 = (0, 3, oS26) := of0 (by decide +kernel) rfl
theorem oSf37 : enB oS26 3 4 0 0 2 = true := by decide +kernel
def oS27 : Hl := (judgeS oS26).2.2
theorem oSf38 : judgeS oS26 = (0, 2, oS27) := of0 (by decide +kernel) rfl
theorem oSf39 : enB oS27 2 5 0 0 2 = true := by decide +kernel
def oS28 : Hl := (judgeS oS27).2.2
theorem oSf40 : judgeS oS27 = (0, 4, oS28) := of0 (by decide +kernel) rfl
theorem oSf41 : enB oS28 4 2 0 0 2 = true := by decide +kernel
def oS29 : Hl := (judgeS oS28).2.2
theorem oSf42 : judgeS oS28 = (0, (-1), oS29) := of0 (by decide +kernel) rfl
theorem oSf43 : bdB oS29 2 0 0 1 0 0 = true := by decide +kernel
theorem oSf44 : bdB oS29 0 0 1 0 0 0 = true := by decide +kernel
theorem oSf45 : bdB oS29 3 0 3 0 0 0 = true := by decide +kernel
theorem oSf46 : bdB oS29 7 1 7 0 0 0 = true := by decide +kernel
def oS30 : Hl := cdT 4 oS29 9200
theorem oSf47 : cdB 4 oS29 9200 = true ∧ cdV 4 oS29 9200 0 = 4 ∧ cdT 4 oS29 9200 = oS30 := ⟨by decide +kernel, by decide +kernel, rfl⟩
def oS31 : Hl := (enterS oS30 3 0).2.2
theorem oSf48 : enterS oS30 3 0 = (0, 5, oS31) := of0 (by decide +kernel) rfl
theorem oSf49 : placeAnewS oS31 3 = (0, 1, oS31) := of0 (by decide +kernel) placeAnew_st
theorem oSf50 : boardS oS31 3 0 0 = (0, 3, oS31) := of0 (by decide +kernel) board_st
def oS32 : Hl := (judgeS oS31).2.2
theorem oSf51 : judgeS oS31 = (0, 5, oS32) := of0 (by decide +kernel) rfl
theorem oSf52 : bdB oS32 3 0 1 1 50 10 = true := by decide +kernel
theorem oSf53 : bdB oS32 0 0 2 0 0 0 = true := by decide +kernel
def oS33 : Hl := (actQ oS32 5 0 1 40).2.2
theorem oSf54 : outI (actQ oS32 5 0 1 40) = 25 ∧ (actQ oS32 5 0 1 40).2.2 = oS33 := ⟨by decide +kernel, rfl⟩
theorem oSf55 : enB oS33 5 0 (-1) 50 2 = true := by decide +kernel
theorem oSf56 : likenessS oS33 0 1 = (0, 75, oS33) := of0 (by decide +kernel) likeness_st
theorem oSf57 : likenessS oS33 2 2 = (0, 100, oS33) := of0 (by decide +kernel) likeness_st
theorem oSf58 : likenessS oS33 0 2 = (0, 0, oS33) := of0 (by decide +kernel) likeness_st
theorem oSf59 : likenessS oS33 0 5 = (0, 100, oS33) := of0 (by decide +kernel) likeness_st
theorem oSf60 : likenessS oS33 3 0 = (0, 25, oS33) := of0 (by decide +kernel) likeness_st
def oS34 : Hl := (mendS oS33 0 1).2.2
theorem oSf61 : mendS oS33 0 1 = (0, 3, oS34) := of0 (by decide +kernel) rfl
def oS35 : Hl := (rejudgeS oS34 0).2.2
theorem oSf62 : rejudgeS oS34 0 = (0, 6, oS35) := of0 (by decide +kernel) rfl
def oS36 : Hl := (rejudgeS oS35 0).2.2
theorem oSf63 : rejudgeS oS35 0 = (0, 0, oS36) := of0 (by decide +kernel) rfl
theorem oSf64 : enB oS36 0 (-1) (-1) 0 (-1) = true := by decide +kernel
theorem oSf65 : boardS oS36 2 0 1 = (0, 0, oS36) := of0 (by decide +kernel) board_st
def oS37 : Hl := (judgeS oS36).2.2
theorem oSf66 : judgeS oS36 = (0, 0, oS37) := of0 (by decide +kernel) rfl
theorem oSf67 : enB oS37 0 0 (-1) 65 3 = true := by decide +kernel
def oS38 : Hl := (judgeS oS37).2.2
theorem oSf68 : judgeS oS37 = (0, 3, oS38) := of0 (by decide +kernel) rfl
def oS39 : Hl := (judgeS oS38).2.2
theorem oSf69 : judgeS oS38 = (0, 1, oS39) := of0 (by decide +kernel) rfl
def oS40 : Hl := (judgeS oS39).2.2
theorem oSf70 : judgeS oS39 = (0, 4, oS40) := of0 (by decide +kernel) rfl
def oS41 : Hl := (judgeS oS40).2.2
theorem oSf71 : judgeS oS40 = (0, 2, oS41) := of0 (by decide +kernel) rfl
def oS42 : Hl := (judgeS oS41).2.2
theorem oSf72 : judgeS oS41 = (0, 5, oS42) := of0 (by decide +kernel) rfl
def oS43 : Hl := (judgeS oS42).2.2
theorem oSf73 : judgeS oS42 = (0, (-1), oS43) := of0 (by decide +kernel) rfl
theorem oSf74 : bdB oS43 3 0 1 1 50 10 = true := by decide +kernel
def oS44 : Hl := cdT 2 oS43 50
theorem oSf75 : cdB 2 oS43 50 = true ∧ cdV 2 oS43 50 0 = 2 ∧ cdT 2 oS43 50 = oS44 := ⟨by decide +kernel, by decide +kernel, rfl⟩
def oS45 : Hl := (codeS oS44 7 (-9)).2.2
theorem oSf76 : codeS oS44 7 (-9) = (0, 3, oS45) := of0 (by decide +kernel) rfl
def oS46 : Hl := cdT 3 oS45 920
theorem oSf77 : cdB 3 oS45 920 = true ∧ cdV 3 oS45 920 0 = 6 ∧ cdT 3 oS45 920 = oS46 := ⟨by decide +kernel, by decide +kernel, rfl⟩
def oS47 : Hl := (enterS oS46 5 0).2.2
theorem oSf78 : enterS oS46 5 0 = (0, 6, oS47) := of0 (by decide +kernel) rfl
def oS48 : Hl := (judgeS oS47).2.2
theorem oSf79 : judgeS oS47 = (0, 6, oS48) := of0 (by decide +kernel) rfl
theorem oSf80 : enB oS48 6 0 (-1) 65 3 = true := by decide +kernel
def oS49 : Hl := (actQ oS48 16 2 6 0).2.2
theorem oSf81 : outI (actQ oS48 16 2 6 0) = (-7000003) ∧ (actQ oS48 16 2 6 0).2.2 = oS49 := ⟨by decide +kernel, rfl⟩
def oS50 : Hl := (inputS oS49 1).2.2
theorem oSf82 : inputS oS49 1 = (0, 1, oS50) := of0 (by decide +kernel) rfl
def oS51 : Hl := (inputS oS50 1).2.2
theorem oSf83 : inputS oS50 1 = (0, 2, oS51) := of0 (by decide +kernel) rfl
def oS52 : Hl := (actQ oS51 16 4 6 0).2.2
theorem oSf84 : outI (actQ oS51 16 4 6 0) = (-7000003) ∧ (actQ oS51 16 4 6 0).2.2 = oS52 := ⟨by decide +kernel, rfl⟩
def oS53 : Hl := (actQ oS52 16 5 6 0).2.2
theorem oSf85 : outI (actQ oS52 16 5 6 0) = (-7000003) ∧ (actQ oS52 16 5 6 0).2.2 = oS53 := ⟨by decide +kernel, rfl⟩
def oS54 : Hl := (actQ oS53 16 2 1 0).2.2
theorem oSf86 : outI (actQ oS53 16 2 1 0) = (-7000003) ∧ (actQ oS53 16 2 1 0).2.2 = oS54 := ⟨by decide +kernel, rfl⟩
def oS55 : Hl := (hackS oS54 2 6).2.2
theorem oSf87 : hackS oS54 2 6 = (0, 0, oS55) := of0 (by decide +kernel) rfl
theorem oSf88 : boardS oS55 2 0 4 = (0, (-1), oS55) := of0 (by decide +kernel) board_st
theorem oSf89 : answerS oS55 0 1 0 = (0, (-1), oS55) := of0 (by decide +kernel) answer_st
def oS56 : Hl := (actQ oS55 7 0 2 0).2.2
theorem oSf90 : outI (actQ oS55 7 0 2 0) = (-7000001) ∧ (actQ oS55 7 0 2 0).2.2 = oS56 := ⟨by decide +kernel, rfl⟩
def oS57 : Hl := (inputS oS56 0).2.2
theorem oSf91 : inputS oS56 0 = (0, 1, oS57) := of0 (by decide +kernel) rfl
def oS58 : Hl := (inputS oS57 5).2.2
theorem oSf92 : inputS oS57 5 = (0, 2, oS58) := of0 (by decide +kernel) rfl
def oS59 : Hl := (hackS oS58 2 6).2.2
theorem oSf93 : hackS oS58 2 6 = (0, 1, oS59) := of0 (by decide +kernel) rfl
theorem oSf94 : boardS oS59 2 1 4 = (0, 0, oS59) := of0 (by decide +kernel) board_st
theorem oSf95 : answerS oS59 0 2 0 = (0, 5, oS59) := of0 (by decide +kernel) answer_st
theorem oSf96 : enB oS59 6 4 2 65 4 = true := by decide +kernel
theorem oSf97 : enB oS59 0 0 (-1) 65 3 = true := by decide +kernel
theorem oSf98 : bdB oS59 5 0 5 0 0 0 = true := by decide +kernel
def oS60 : Hl := (inputS oS59 7).2.2
theorem oSf99 : inputS oS59 7 = (0, 1, oS60) := of0 (by decide +kernel) rfl
def oS61 : Hl := (clearS oS60).2.2
theorem oSf100 : clearS oS60 = (0, 0, oS61) := of0 (by decide +kernel) rfl
def oS62 : Hl := (actQ oS61 16 2 6 0).2.2
theorem oSf101 : outI (actQ oS61 16 2 6 0) = (-7000003) ∧ (actQ oS61 16 2 6 0).2.2 = oS62 := ⟨by decide +kernel, rfl⟩
def oS63 : Hl := (rejudgeS oS62 0).2.2
theorem oSf102 : rejudgeS oS62 0 = (0, 6, oS63) := of0 (by decide +kernel) rfl
theorem oSf103 : (1 : Int) = (oS63.np : Int) ∧ (7 : Int) = (oS63.ne : Int) := by decide +kernel
