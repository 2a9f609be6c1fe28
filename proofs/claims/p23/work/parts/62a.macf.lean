/-! machine: what the calls answer -/
theorem mSf1 : rnB s0 1 0 0 0 0 0 = true := by decide +kernel
def mS1 : Hl := cdT 4 s0 9200
theorem mSf2 : cdB 4 s0 9200 = true ∧ cdV 4 s0 9200 0 = 4 ∧ cdT 4 s0 9200 = mS1 := ⟨by decide +kernel, by decide +kernel, rfl⟩
def mS2 : Hl := (inputS mS1 3).2.2
theorem mSf3 : inputS mS1 3 = (0, 1, mS2) := of0 (by decide +kernel) rfl
theorem mSf4 : rnB mS2 9 4 2 0 0 0 = true := by decide +kernel
def mS3 : Hl := (inputS mS2 4).2.2
theorem mSf5 : inputS mS2 4 = (0, 2, mS3) := of0 (by decide +kernel) rfl
theorem mSf6 : rnB mS3 4 0 4 1 7 0 = true := by decide +kernel
theorem mSf7 : rnB mS3 3 2 3 0 0 0 = true := by decide +kernel
def mS4 : Hl := (clearS mS3).2.2
theorem mSf8 : clearS mS3 = (0, 4, mS4) := of0 (by decide +kernel) rfl
theorem mSf9 : rnB mS4 9 0 0 0 0 0 = true := by decide +kernel
def mS5 : Hl := (codeS mS4 1 99).2.2
theorem mSf10 : codeS mS4 1 99 = (0, 1, mS5) := of0 (by decide +kernel) rfl
def mS6 : Hl := cdT 4 mS5 4545
theorem mSf11 : cdB 4 mS5 4545 = true ∧ cdV 4 mS5 4545 0 = 5 ∧ cdT 4 mS5 4545 = mS6 := ⟨by decide +kernel, by decide +kernel, rfl⟩
theorem mSf12 : rnB mS6 9 4 5 0 0 0 = true := by decide +kernel
theorem mSf13 : rnB mS6 4 2 4 0 0 0 = true := by decide +kernel
def mS7 : Hl := (clearS mS6).2.2
theorem mSf14 : clearS mS6 = (0, 5, mS7) := of0 (by decide +kernel) rfl
def mS8 : Hl := (codeS mS7 1 5).2.2
theorem mSf15 : codeS mS7 1 5 = (0, 1, mS8) := of0 (by decide +kernel) rfl
def mS9 : Hl := cdT 4 mS8 4545
theorem mSf16 : cdB 4 mS8 4545 = true ∧ cdV 4 mS8 4545 0 = 5 ∧ cdT 4 mS8 4545 = mS9 := ⟨by decide +kernel, by decide +kernel, rfl⟩
def mS10 : Hl := cdT 2 mS9 95
theorem mSf17 : cdB 2 mS9 95 = true ∧ cdV 2 mS9 95 0 = 7 ∧ cdT 2 mS9 95 = mS10 := ⟨by decide +kernel, by decide +kernel, rfl⟩
theorem mSf18 : rnB mS10 99 0 7 1 625 0 = true := by decide +kernel
def mS11 : Hl := cdT 1 mS10 4
theorem mSf19 : cdB 1 mS10 4 = true ∧ cdV 1 mS10 4 0 = 8 ∧ cdT 1 mS10 4 = mS11 := ⟨by decide +kernel, by decide +kernel, rfl⟩
theorem mSf20 : rnB mS11 99 4 8 1 625 0 = true := by decide +kernel
theorem mSf21 : rnB mS11 7 2 7 1 625 0 = true := by decide +kernel
def mS12 : Hl := (clearS mS11).2.2
theorem mSf22 : clearS mS11 = (0, 8, mS12) := of0 (by decide +kernel) rfl
def mS13 : Hl := (codeS mS12 1 7).2.2
theorem mSf23 : codeS mS12 1 7 = (0, 1, mS13) := of0 (by decide +kernel) rfl
def mS14 : Hl := cdT 7 mS13 5555555
theorem mSf24 : cdB 7 mS13 5555555 = true ∧ cdV 7 mS13 5555555 0 = 8 ∧ cdT 7 mS13 5555555 = mS14 := ⟨by decide +kernel, by decide +kernel, rfl⟩
theorem mSf25 : rnB mS14 99 0 8 0 0 0 = true := by decide +kernel
def mS15 : Hl := (codeS mS14 5 0).2.2
theorem mSf26 : codeS mS14 5 0 = (0, 9, mS15) := of0 (by decide +kernel) rfl
theorem mSf27 : rnB mS15 99 3 9 0 0 0 = true := by decide +kernel
theorem mSf28 : rnB mS15 8 2 8 0 0 0 = true := by decide +kernel
def mS16 : Hl := (clearS mS15).2.2
theorem mSf29 : clearS mS15 = (0, 9, mS16) := of0 (by decide +kernel) rfl
def mS17 : Hl := (codeS mS16 1 3).2.2
theorem mSf30 : codeS mS16 1 3 = (0, 1, mS17) := of0 (by decide +kernel) rfl
def mS18 : Hl := (codeS mS17 9 0).2.2
theorem mSf31 : codeS mS17 9 0 = (0, 2, mS18) := of0 (by decide +kernel) rfl
def mS19 : Hl := (codeS mS18 8 0).2.2
theorem mSf32 : codeS mS18 8 0 = (0, 3, mS19) := of0 (by decide +kernel) rfl
theorem mSf33 : rnB mS19 500 3 26 8 3 3 = true := by decide +kernel
theorem mSf34 : rnB mS19 25 2 25 8 3 3 = true := by decide +kernel
def mS20 : Hl := (clearS mS19).2.2
theorem mSf35 : clearS mS19 = (0, 3, mS20) := of0 (by decide +kernel) rfl
def mS21 : Hl := (codeS mS20 8 1).2.2
theorem mSf36 : codeS mS20 8 1 = (0, 1, mS21) := of0 (by decide +kernel) rfl
theorem mSf37 : rnB mS21 1 0 1 0 0 0 = true := by decide +kernel
def mS22 : Hl := (clearS mS21).2.2
theorem mSf38 : clearS mS21 = (0, 1, mS22) := of0 (by decide +kernel) rfl
def mS23 : Hl := (codeS mS22 8 2).2.2
theorem mSf39 : codeS mS22 8 2 = (0, 1, mS23) := of0 (by decide +kernel) rfl
theorem mSf40 : rnB mS23 1 4 1 0 0 0 = true := by decide +kernel
def mS24 : Hl := (clearS mS23).2.2
theorem mSf41 : clearS mS23 = (0, 1, mS24) := of0 (by decide +kernel) rfl
def mS25 : Hl := (codeS mS24 8 (-1)).2.2
theorem mSf42 : codeS mS24 8 (-1) = (0, 1, mS25) := of0 (by decide +kernel) rfl
theorem mSf43 : rnB mS25 9 4 1 0 0 0 = true := by decide +kernel
def mS26 : Hl := (clearS mS25).2.2
theorem mSf44 : clearS mS25 = (0, 1, mS26) := of0 (by decide +kernel) rfl
def mS27 : Hl := (codeS mS26 1 1).2.2
theorem mSf45 : codeS mS26 1 1 = (0, 1, mS27) := of0 (by decide +kernel) rfl
def mS28 : Hl := (codeS mS27 7 (-9)).2.2
theorem mSf46 : codeS mS27 7 (-9) = (0, 2, mS28) := of0 (by decide +kernel) rfl
theorem mSf47 : rnB mS28 9 0 2 0 0 0 = true := by decide +kernel
def mS29 : Hl := (clearS mS28).2.2
theorem mSf48 : clearS mS28 = (0, 2, mS29) := of0 (by decide +kernel) rfl
def mS30 : Hl := (codeS mS29 1 0).2.2
theorem mSf49 : codeS mS29 1 0 = (0, 1, mS30) := of0 (by decide +kernel) rfl
def mS31 : Hl := (codeS mS30 7 (-9)).2.2
theorem mSf50 : codeS mS30 7 (-9) = (0, 2, mS31) := of0 (by decide +kernel) rfl
theorem mSf51 : rnB mS31 9 4 2 0 0 0 = true := by decide +kernel
def mS32 : Hl := (clearS mS31).2.2
theorem mSf52 : clearS mS31 = (0, 2, mS32) := of0 (by decide +kernel) rfl
def mS33 : Hl := (codeS mS32 8 0).2.2
theorem mSf53 : codeS mS32 8 0 = (0, 1, mS33) := of0 (by decide +kernel) rfl
theorem mSf54 : rnB mS33 500 2 500 0 0 0 = true := by decide +kernel
def mS34 : Hl := (clearS mS33).2.2
theorem mSf55 : clearS mS33 = (0, 1, mS34) := of0 (by decide +kernel) rfl
def mS35 : Hl := (codeS mS34 2 0).2.2
theorem mSf56 : codeS mS34 2 0 = (0, 1, mS35) := of0 (by decide +kernel) rfl
theorem mSf57 : rnB mS35 9 4 1 0 0 0 = true := by decide +kernel
def mS36 : Hl := (clearS mS35).2.2
theorem mSf58 : clearS mS35 = (0, 1, mS36) := of0 (by decide +kernel) rfl
def mS37 : Hl := (codeS mS36 1 2).2.2
theorem mSf59 : codeS mS36 1 2 = (0, 1, mS37) := of0 (by decide +kernel) rfl
def mS38 : Hl := (codeS mS37 2 2).2.2
theorem mSf60 : codeS mS37 2 2 = (0, 2, mS38) := of0 (by decide +kernel) rfl
theorem mSf61 : rnB mS38 9 4 2 0 0 0 = true := by decide +kernel
def mS39 : Hl := (clearS mS38).2.2
theorem mSf62 : clearS mS38 = (0, 2, mS39) := of0 (by decide +kernel) rfl
def mS40 : Hl := (codeS mS39 3 0).2.2
theorem mSf63 : codeS mS39 3 0 = (0, 1, mS40) := of0 (by decide +kernel) rfl
theorem mSf64 : rnB mS40 9 4 1 0 0 0 = true := by decide +kernel
def mS41 : Hl := (clearS mS40).2.2
theorem mSf65 : clearS mS40 = (0, 1, mS41) := of0 (by decide +kernel) rfl
def mS42 : Hl := (codeS mS41 1 2).2.2
theorem mSf66 : codeS mS41 1 2 = (0, 1, mS42) := of0 (by decide +kernel) rfl
def mS43 : Hl := (codeS mS42 3 2).2.2
theorem mSf67 : codeS mS42 3 2 = (0, 2, mS43) := of0 (by decide +kernel) rfl
theorem mSf68 : rnB mS43 9 4 2 0 0 0 = true := by decide +kernel
def mS44 : Hl := (clearS mS43).2.2
theorem mSf69 : clearS mS43 = (0, 2, mS44) := of0 (by decide +kernel) rfl
def mS45 : Hl := (codeS mS44 4 0).2.2
theorem mSf70 : codeS mS44 4 0 = (0, 1, mS45) := of0 (by decide +kernel) rfl
theorem mSf71 : rnB mS45 9 4 1 0 0 0 = true := by decide +kernel
def mS46 : Hl := (clearS mS45).2.2
theorem mSf72 : clearS mS45 = (0, 1, mS46) := of0 (by decide +kernel) rfl
def mS47 : Hl := (codeS mS46 1 2).2.2
theorem mSf73 : codeS mS46 1 2 = (0, 1, mS47) := of0 (by decide +kernel) rfl
def mS48 : Hl := (codeS mS47 4 2).2.2
theorem mSf74 : codeS mS47 4 2 = (0, 2, mS48) := of0 (by decide +kernel) rfl
theorem mSf75 : rnB mS48 9 4 2 0 0 0 = true := by decide +kernel
def mS49 : Hl := (clearS mS48).2.2
theorem mSf76 : clearS mS48 = (0, 2, mS49) := of0 (by decide +kernel) rfl
def mS50 : Hl := (codeS mS49 5 0).2.2
theorem mSf77 : codeS mS49 5 0 = (0, 1, mS50) := of0 (by decide +kernel) rfl
theorem mSf78 : rnB mS50 9 4 1 0 0 0 = true := by decide +kernel
def mS51 : Hl := (clearS mS50).2.2
theorem mSf79 : clearS mS50 = (0, 1, mS51) := of0 (by decide +kernel) rfl
def mS52 : Hl := (codeS mS51 1 2).2.2
theorem mSf80 : codeS mS51 1 2 = (0, 1, mS52) := of0 (by decide +kernel) rfl
def mS53 : Hl := (codeS mS52 5 2).2.2
theorem mSf81 : codeS mS52 5 2 = (0, 2, mS53) := of0 (by decide +kernel) rfl
theorem mSf82 : rnB mS53 9 0 2 0 0 0 = true := by decide +kernel
def mS54 : Hl := (clearS mS53).2.2
theorem mSf83 : clearS mS53 = (0, 2, mS54) := of0 (by decide +kernel) rfl
def mS55 : Hl := (codeS mS54 6 0).2.2
theorem mSf84 : codeS mS54 6 0 = (0, 1, mS55) := of0 (by decide +kernel) rfl
theorem mSf85 : rnB mS55 9 4 1 0 0 0 = true := by decide +kernel
def mS56 : Hl := (clearS mS55).2.2
theorem mSf86 : clearS mS55 = (0, 1, mS56) := of0 (by decide +kernel) rfl
def mS57 : Hl := (codeS mS56 1 2).2.2
theorem mSf87 : codeS mS56 1 2 = (0, 1, mS57) := of0 (by decide +kernel) rfl
def mS58 : Hl := (codeS mS57 6 2).2.2
theorem mSf88 : codeS mS57 6 2 = (0, 2, mS58) := of0 (by decide +kernel) rfl
theorem mSf89 : rnB mS58 9 4 2 0 0 0 = true := by decide +kernel
def mS59 : Hl := (clearS mS58).2.2
theorem mSf90 : clearS mS58 = (0, 2, mS59) := of0 (by decide +kernel) rfl
def mS60 : Hl := (codeS mS59 7 0).2.2
theorem mSf91 : codeS mS59 7 0 = (0, 1, mS60) := of0 (by decide +kernel) rfl
theorem mSf92 : rnB mS60 9 4 1 0 0 0 = true := by decide +kernel
def mS61 : Hl := (clearS mS60).2.2
theorem mSf93 : clearS mS60 = (0, 1, mS61) := of0 (by decide +kernel) rfl
def mS62 : Hl := (codeS mS61 1 2).2.2
theorem mSf94 : codeS mS61 1 2 = (0, 1, mS62) := of0 (by decide +kernel) rfl
def mS63 : Hl := (codeS mS62 7 2).2.2
theorem mSf95 : codeS mS62 7 2 = (0, 2, mS63) := of0 (by decide +kernel) rfl
theorem mSf96 : rnB mS63 9 0 2 0 0 0 = true := by decide +kernel
def mS64 : Hl := (clearS mS63).2.2
theorem mSf97 : clearS mS63 = (0, 2, mS64) := of0 (by decide +kernel) rfl
def mS65 : Hl := (codeS mS64 8 0).2.2
theorem mSf98 : codeS mS64 8 0 = (0, 1, mS65) := of0 (by decide +kernel) rfl
def mS66 : Hl := (clearS mS65).2.2
theorem mSf99 : clearS mS65 = (0, 1, mS66) := of0 (by decide +kernel) rfl
def mS67 : Hl := (codeS mS66 1 2).2.2
theorem mSf100 : codeS mS66 1 2 = (0, 1, mS67) := of0 (by decide +kernel) rfl
def mS68 : Hl := (codeS mS67 8 2).2.2
theorem mSf101 : codeS mS67 8 2 = (0, 2, mS68) := of0 (by decide +kernel) rfl
theorem mSf102 : rnB mS68 9 0 2 0 0 0 = true := by decide +kernel
def mS69 : Hl := (clearS mS68).2.2
theorem mSf103 : clearS mS68 = (0, 2, mS69) := of0 (by decide +kernel) rfl
def mS70 : Hl := (codeS mS69 9 0).2.2
theorem mSf104 : codeS mS69 9 0 = (0, 1, mS70) := of0 (by decide +kernel) rfl
theorem mSf105 : rnB mS70 9 4 1 0 0 0 = true := by decide +kernel
def mS71 : Hl := (clearS mS70).2.2
theorem mSf106 : clearS mS70 = (0, 1, mS71) := of0 (by decide +kernel) rfl
def mS72 : Hl := (codeS mS71 1 2).2.2
theorem mSf107 : codeS mS71 1 2 = (0, 1, mS72) := of0 (by decide +kernel) rfl
def mS73 : Hl := (codeS mS72 9 2).2.2
theorem mSf108 : codeS mS72 9 2 = (0, 2, mS73) := of0 (by decide +kernel) rfl
theorem mSf109 : rnB mS73 9 0 2 1 2 0 = true := by decide +kernel
def mS74 : Hl := (clearS mS73).2.2
theorem mSf110 : clearS mS73 = (0, 2, mS74) := of0 (by decide +kernel) rfl
def mS75 : Hl := (codeS mS74 1 9).2.2
theorem mSf111 : codeS mS74 1 9 = (0, 1, mS75) := of0 (by decide +kernel) rfl
def mS76 : Hl := (codeS mS75 1 4).2.2
theorem mSf112 : codeS mS75 1 4 = (0, 2, mS76) := of0 (by decide +kernel) rfl
def mS77 : Hl := cdT 3 mS76 936
theorem mSf113 : cdB 3 mS76 936 = true ∧ cdV 3 mS76 936 0 = 5 ∧ cdT 3 mS76 936 = mS77 := ⟨by decide +kernel, by decide +kernel, rfl⟩
theorem mSf114 : rnB mS77 9 0 5 1 (-5) 0 = true := by decide +kernel
def mS78 : Hl := (clearS mS77).2.2
theorem mSf115 : clearS mS77 = (0, 5, mS78) := of0 (by decide +kernel) rfl
def mS79 : Hl := (actQ mS78 0 8 1 0).2.2
theorem mSf116 : outI (actQ mS78 0 8 1 0) = 1 ∧ (actQ mS78 0 8 1 0).2.2 = mS79 := ⟨by decide +kernel, rfl⟩
def mS80 : Hl := (actQ mS79 1 0 0 0).2.2
theorem mSf117 : outI (actQ mS79 1 0 0 0) = 1 ∧ (actQ mS79 1 0 0 0).2.2 = mS80 := ⟨by decide +kernel, rfl⟩
def mS81 : Hl := (actQ mS80 0 8 2 0).2.2
theorem mSf118 : outI (actQ mS80 0 8 2 0) = 2 ∧ (actQ mS80 0 8 2 0).2.2 = mS81 := ⟨by decide +kernel, rfl⟩
def mS82 : Hl := (actQ mS81 1 1 0 0).2.2
theorem mSf119 : outI (actQ mS81 1 1 0 0) = 2 ∧ (actQ mS81 1 1 0 0).2.2 = mS82 := ⟨by decide +kernel, rfl⟩
def mS83 : Hl := (actQ mS82 0 8 3 0).2.2
theorem mSf120 : outI (actQ mS82 0 8 3 0) = 3 ∧ (actQ mS82 0 8 3 0).2.2 = mS83 := ⟨by decide +kernel, rfl⟩
def mS84 : Hl := (actQ mS83 1 2 0 0).2.2
theorem mSf121 : outI (actQ mS83 1 2 0 0) = 3 ∧ (actQ mS83 1 2 0 0).2.2 = mS84 := ⟨by decide +kernel, rfl⟩
def mS85 : Hl := (actQ mS84 0 8 4 0).2.2
theorem mSf122 : outI (actQ mS84 0 8 4 0) = 4 ∧ (actQ mS84 0 8 4 0).2.2 = mS85 := ⟨by decide +kernel, rfl⟩
def mS86 : Hl := (actQ mS85 1 3 0 0).2.2
theorem mSf123 : outI (actQ mS85 1 3 0 0) = 4 ∧ (actQ mS85 1 3 0 0).2.2 = mS86 := ⟨by decide +kernel, rfl⟩
def mS87 : Hl := (actQ mS86 0 8 5 0).2.2
theorem mSf124 : outI (actQ mS86 0 8 5 0) = 5 ∧ (actQ mS86 0 8 5 0).2.2 = mS87 := ⟨by decide +kernel, rfl⟩
def mS88 : Hl := (actQ mS87 1 4 0 0).2.2
theorem mSf125 : outI (actQ mS87 1 4 0 0) = (-7000003) ∧ (actQ mS87 1 4 0 0).2.2 = mS88 := ⟨by decide +kernel, rfl⟩
def mS89 : Hl := (actQ mS88 0 8 6 0).2.2
theorem mSf126 : outI (actQ mS88 0 8 6 0) = 6 ∧ (actQ mS88 0 8 6 0).2.2 = mS89 := ⟨by decide +kernel, rfl⟩
def mS90 : Hl := (actQ mS89 1 5 0 0).2.2
theorem mSf127 : outI (actQ mS89 1 5 0 0) = (-7000003) ∧ (actQ mS89 1 5 0 0).2.2 = mS90 := ⟨by decide +kernel, rfl⟩
def mS91 : Hl := (actQ mS90 0 8 7 0).2.2
theorem mSf128 : outI (actQ mS90 0 8 7 0) = 7 ∧ (actQ mS90 0 8 7 0).2.2 = mS91 := ⟨by decide +kernel, rfl⟩
def mS92 : Hl := (actQ mS91 1 6 0 0).2.2
theorem mSf129 : outI (actQ mS91 1 6 0 0) = (-7000003) ∧ (actQ mS91 1 6 0 0).2.2 = mS92 := ⟨by decide +kernel, rfl⟩
def mS93 : Hl := (actQ mS92 0 8 8 0).2.2
theorem mSf130 : outI (actQ mS92 0 8 8 0) = 8 ∧ (actQ mS92 0 8 8 0).2.2 = mS93 := ⟨by decide +kernel, rfl⟩
def mS94 : Hl := (actQ mS93 1 7 0 0).2.2
theorem mSf131 : outI (actQ mS93 1 7 0 0) = (-7000003) ∧ (actQ mS93 1 7 0 0).2.2 = mS94 := ⟨by decide +kernel, rfl⟩
def mS95 : Hl := (actQ mS94 0 8 9 0).2.2
theorem mSf132 : outI (actQ mS94 0 8 9 0) = 9 ∧ (actQ mS94 0 8 9 0).2.2 = mS95 := ⟨by decide +kernel, rfl⟩
def mS96 : Hl := (actQ mS95 1 8 0 0).2.2
theorem mSf133 : outI (actQ mS95 1 8 0 0) = (-7000003) ∧ (actQ mS95 1 8 0 0).2.2 = mS96 := ⟨by decide +kernel, rfl⟩
def mS97 : Hl := (actQ mS96 0 8 10 0).2.2
theorem mSf134 : outI (actQ mS96 0 8 10 0) = 10 ∧ (actQ mS96 0 8 10 0).2.2 = mS97 := ⟨by decide +kernel, rfl⟩
def mS98 : Hl := (actQ mS97 1 0 0 0).2.2
theorem mSf135 : outI (actQ mS97 1 0 0 0) = (-7000003) ∧ (actQ mS97 1 0 0 0).2.2 = mS98 := ⟨by decide +kernel, rfl⟩
def mS99 : Hl := (actQ mS98 0 8 11 0).2.2
theorem mSf136 : outI (actQ mS98 0 8 11 0) = 11 ∧ (actQ mS98 0 8 11 0).2.2 = mS99 := ⟨by decide +kernel, rfl⟩
def mS100 : Hl := (actQ mS99 1 1 0 0).2.2
theorem mSf137 : outI (actQ mS99 1 1 0 0) = (-7000003) ∧ (actQ mS99 1 1 0 0).2.2 = mS100 := ⟨by decide +kernel, rfl⟩
def mS101 : Hl := (actQ mS100 0 8 12 0).2.2
theorem mSf138 : outI (actQ mS100 0 8 12 0) = 12 ∧ (actQ mS100 0 8 12 0).2.2 = mS101 := ⟨by decide +kernel, rfl⟩
def mS102 : Hl := (actQ mS101 1 2 0 0).2.2
theorem mSf139 : outI (actQ mS101 1 2 0 0) = (-7000003) ∧ (actQ mS101 1 2 0 0).2.2 = mS102 := ⟨by decide +kernel, rfl⟩
def mS103 : Hl := (actQ mS102 0 8 13 0).2.2
theorem mSf140 : outI (actQ mS102 0 8 13 0) = 13 ∧ (actQ mS102 0 8 13 0).2.2 = mS103 := ⟨by decide +kernel, rfl⟩
def mS104 : Hl := (actQ mS103 1 3 0 0).2.2
theorem mSf141 : outI (actQ mS103 1 3 0 0) = (-7000003) ∧ (actQ mS103 1 3 0 0).2.2 = mS104 := ⟨by decide +kernel, rfl⟩
def mS105 : Hl := (actQ mS104 0 8 14 0).2.2
theorem mSf142 : outI (actQ mS104 0 8 14 0) = 14 ∧ (actQ mS104 0 8 14 0).2.2 = mS105 := ⟨by decide +kernel, rfl⟩
def mS106 : Hl := (actQ mS105 1 4 0 0).2.2
theorem mSf143 : outI (actQ mS105 1 4 0 0) = (-7000003) ∧ (actQ mS105 1 4 0 0).2.2 = mS106 := ⟨by decide +kernel, rfl⟩
def mS107 : Hl := (actQ mS106 0 8 15 0).2.2
theorem mSf144 : outI (actQ mS106 0 8 15 0) = 15 ∧ (actQ mS106 0 8 15 0).2.2 = mS107 := ⟨by decide +kernel, rfl⟩
def mS108 : Hl := (actQ mS107 1 5 0 0).2.2
theorem mSf145 : outI (actQ mS107 1 5 0 0) = (-7000003) ∧ (actQ mS107 1 5 0 0).2.2 = mS108 := ⟨by decide +kernel, rfl⟩
def mS109 : Hl := (actQ mS108 0 8 16 0).2.2
theorem mSf146 : outI (actQ mS108 0 8 16 0) = 16 ∧ (actQ mS108 0 8 16 0).2.2 = mS109 := ⟨by decide +kernel, rfl⟩
def mS110 : Hl := (actQ mS109 1 6 0 0).2.2
theorem mSf147 : outI (actQ mS109 1 6 0 0) = (-7000003) ∧ (actQ mS109 1 6 0 0).2.2 = mS110 := ⟨by decide +kernel, rfl⟩
def mS111 : Hl := (actQ mS110 0 8 17 0).2.2
theorem mSf148 : outI (actQ mS110 0 8 17 0) = (-7000003) ∧ (actQ mS110 0 8 17 0).2.2 = mS111 := ⟨by decide +kernel, rfl⟩
def mS112 : Hl := (actQ mS111 1 7 0 0).2.2
theorem mSf149 : outI (actQ mS111 1 7 0 0) = (-7000003) ∧ (actQ mS111 1 7 0 0).2.2 = mS112 := ⟨by decide +kernel, rfl⟩
theorem mSf150 : rnB mS112 16 0 16 0 0 0 = true := by decide +kernel
theorem mSf151 : rnB mS112 15 2 15 0 0 0 = true := by decide +kernel
def mS113 : Hl := (clearS mS112).2.2
theorem mSf152 : clearS mS112 = (0, 16, mS113) := of0 (by decide +kernel) rfl
theorem mSf153 : (0 : Int) = (mS113.np : Int) ∧ (0 : Int) = (mS113.ne : Int) := by decide +kernel
