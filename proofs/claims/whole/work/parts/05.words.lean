theorem aw_0 : Cond.selects "RejudgeHall$Entry" yX0_waits yX0_waits ∈ AW := aw_of (i := 0) (by decide +kernel) rfl
theorem aw_1 : Cond.selects "RejudgeHall" yX7_giveVerdict yX7_giveVerdict ∈ AW := aw_of (i := 1) (by decide +kernel) rfl
theorem aw_2 : Cond.selects "RejudgeHall" yX7_tryOut yX7_tryOut ∈ AW := aw_of (i := 2) (by decide +kernel) rfl
theorem aw_3 : Cond.selects "RejudgeHall$Machine" yX1_execute yX1_execute ∈ AW := aw_of (i := 3) (by decide +kernel) rfl
theorem aw_4 : Cond.selects "RejudgeHall$Machine" yX1_step yX1_step ∈ AW := aw_of (i := 4) (by decide +kernel) rfl
theorem aw_5 : Cond.selects "RejudgeHall$Program" yX3_has yX3_has ∈ AW := aw_of (i := 5) (by decide +kernel) rfl
theorem aw_6 : Cond.selects "RejudgeHall$Row" yX4_at yX4_at ∈ AW := aw_of (i := 6) (by decide +kernel) rfl
theorem aw_7 : Cond.selects "RejudgeHall$Machine" yX1_put yX1_put ∈ AW := aw_of (i := 7) (by decide +kernel) rfl
theorem aw_8 : Cond.selects "RejudgeHall$Row" yX4_isFull yX4_isFull ∈ AW := aw_of (i := 8) (by decide +kernel) rfl
theorem aw_9 : Cond.selects "RejudgeHall$Row" yX4_push yX4_push ∈ AW := aw_of (i := 9) (by decide +kernel) rfl
theorem aw_10 : Cond.selects "RejudgeHall$Machine" yX1_make yX1_make ∈ AW := aw_of (i := 10) (by decide +kernel) rfl
theorem aw_11 : Cond.selects "RejudgeHall$Row" yX4_pop yX4_pop ∈ AW := aw_of (i := 11) (by decide +kernel) rfl
theorem aw_12 : Cond.selects "RejudgeHall$Machine" yX1_swap yX1_swap ∈ AW := aw_of (i := 12) (by decide +kernel) rfl
theorem aw_13 : Cond.selects "RejudgeHall$Machine" yX1_goIfZero yX1_goIfZero ∈ AW := aw_of (i := 13) (by decide +kernel) rfl
theorem aw_14 : Cond.selects "RejudgeHall$Machine" yX1_goTo yX1_goTo ∈ AW := aw_of (i := 14) (by decide +kernel) rfl
theorem aw_15 : Cond.selects "RejudgeHall$Machine" yX1_print yX1_print ∈ AW := aw_of (i := 15) (by decide +kernel) rfl
theorem aw_16 : Cond.selects "RejudgeHall$Row" yX4_isWithin yX4_isWithin ∈ AW := aw_of (i := 16) (by decide +kernel) rfl
theorem aw_17 : Cond.selects "RejudgeHall$Problem" yX2_pointsOf yX2_pointsOf ∈ AW := aw_of (i := 17) (by decide +kernel) rfl
theorem aw_18 : Cond.selects "RejudgeHall" yX7_countVerdicts yX7_countVerdicts ∈ AW := aw_of (i := 18) (by decide +kernel) rfl
theorem aw_19 : Cond.selects "RejudgeHall$Standings" yX5_wipe yX5_wipe ∈ AW := aw_of (i := 19) (by decide +kernel) rfl
theorem aw_20 : Cond.selects "RejudgeHall" yX7_isHidden yX7_isHidden ∈ AW := aw_of (i := 20) (by decide +kernel) rfl
theorem aw_21 : Cond.selects "RejudgeHall" yX7_isLate yX7_isLate ∈ AW := aw_of (i := 21) (by decide +kernel) rfl
theorem aw_22 : Cond.selects "RejudgeHall$Standings" yX5_count yX5_count ∈ AW := aw_of (i := 22) (by decide +kernel) rfl
theorem aw_23 : Cond.selects "RejudgeHall" yX7_lowestHidden yX7_lowestHidden ∈ AW := aw_of (i := 23) (by decide +kernel) rfl
theorem aw_24 : Cond.selects "RejudgeHall$Standings" yX5_isAhead yX5_isAhead ∈ AW := aw_of (i := 24) (by decide +kernel) rfl
theorem aw_25 : Cond.selects "java/lang/Throwable" ⟨"java/lang/Throwable", "fillInStackTrace", "(I)Ljava/lang/Throwable;"⟩ ⟨"java/lang/Throwable", "fillInStackTrace", "(I)Ljava/lang/Throwable;"⟩ ∈ AW := aw_of (i := 25) (by decide +kernel) rfl
theorem aw_26 : Cond.selects "RejudgeHall$Program" yX3_append yX3_append ∈ AW := aw_of (i := 26) (by decide +kernel) rfl
theorem aw_27 : Cond.selects "RejudgeHall$Program" yX3_takeFrom yX3_takeFrom ∈ AW := aw_of (i := 27) (by decide +kernel) rfl
theorem aw_28 : Cond.selects "java/util/ArrayList" yJx4a65c_add_72be8 yJx4a65c_add_72be8 ∈ AW := aw_of (i := 28) (by decide +kernel) rfl
theorem aw_29 : Cond.selects "java/util/ArrayList" yJx4a65c_grow_d5877 yJx4a65c_grow_d5877 ∈ AW := aw_of (i := 29) (by decide +kernel) rfl
theorem aw_30 : Cond.selects "java/util/ArrayList" yJx4a65c_grow_92f84 yJx4a65c_grow_92f84 ∈ AW := aw_of (i := 30) (by decide +kernel) rfl
theorem aw_31 : Cond.selects "RejudgeHall" yX7_problemAt yX7_problemAt ∈ AW := aw_of (i := 31) (by decide +kernel) rfl
theorem aw_32 : Cond.selects "RejudgeHall" yX7_findsAnswer yX7_findsAnswer ∈ AW := aw_of (i := 32) (by decide +kernel) rfl
theorem aw_33 : Cond.selects "RejudgeHall$Row" yX4_copyFrom yX4_copyFrom ∈ AW := aw_of (i := 33) (by decide +kernel) rfl
theorem aw_34 : Cond.selects "RejudgeHall$Problem" yX2_addTrial yX2_addTrial ∈ AW := aw_of (i := 34) (by decide +kernel) rfl
theorem aw_35 : Cond.selects "RejudgeHall" yX7_findsAllAnswers yX7_findsAllAnswers ∈ AW := aw_of (i := 35) (by decide +kernel) rfl
theorem aw_36 : Cond.selects "RejudgeHall" yX7_renewAnswers yX7_renewAnswers ∈ AW := aw_of (i := 36) (by decide +kernel) rfl
theorem aw_37 : Cond.selects "RejudgeHall$Entry" yX0_letWait yX0_letWait ∈ AW := aw_of (i := 37) (by decide +kernel) rfl
theorem aw_38 : Cond.selects "RejudgeHall" yX7_entryAt yX7_entryAt ∈ AW := aw_of (i := 38) (by decide +kernel) rfl
theorem aw_39 : Cond.selects "RejudgeHall" yX7_longestCommon yX7_longestCommon ∈ AW := aw_of (i := 39) (by decide +kernel) rfl
theorem aw_40 : Cond.selects "RejudgeHall$Program" yX3_isAlikeAt yX3_isAlikeAt ∈ AW := aw_of (i := 40) (by decide +kernel) rfl
theorem aw_41 : Cond.selects "RejudgeHall$Standings" yX5_placeOf yX5_placeOf ∈ AW := aw_of (i := 41) (by decide +kernel) rfl
theorem aw_42 : Cond.selects "RejudgeHall" yX7_passesAll yX7_passesAll ∈ AW := aw_of (i := 42) (by decide +kernel) rfl
theorem aw_43 : Cond.selects "RejudgeHall" yX7_hasSolved yX7_hasSolved ∈ AW := aw_of (i := 43) (by decide +kernel) rfl
theorem aw_44 : Cond.selects "RejudgeHallModel" yX8_empties yX8_empties ∈ AW := aw_of (i := 44) (by decide +kernel) rfl
theorem aw_45 : Cond.selects "RejudgeHallModel" yX8_runs yX8_runs ∈ AW := aw_of (i := 45) (by decide +kernel) rfl
theorem aw_46 : Cond.selects "RejudgeHallModel" yX8_pushes yX8_pushes ∈ AW := aw_of (i := 46) (by decide +kernel) rfl
theorem aw_47 : Cond.selects "RejudgeHallModel" yX8_makes yX8_makes ∈ AW := aw_of (i := 47) (by decide +kernel) rfl
theorem aw_48 : Cond.selects "RejudgeHallModel" yX8_copies yX8_copies ∈ AW := aw_of (i := 48) (by decide +kernel) rfl
theorem aw_49 : Cond.selects "RejudgeHallModel" yX8_isProblem yX8_isProblem ∈ AW := aw_of (i := 49) (by decide +kernel) rfl
theorem aw_50 : Cond.selects "RejudgeHallModel" yX8_answers yX8_answers ∈ AW := aw_of (i := 50) (by decide +kernel) rfl
theorem aw_51 : Cond.selects "RejudgeHallModel" yX8_becomes yX8_becomes ∈ AW := aw_of (i := 51) (by decide +kernel) rfl
theorem aw_52 : Cond.selects "RejudgeHallModel" yX8_judges yX8_judges ∈ AW := aw_of (i := 52) (by decide +kernel) rfl
theorem aw_53 : Cond.selects "RejudgeHallModel" yX8_does yX8_does ∈ AW := aw_of (i := 53) (by decide +kernel) rfl
theorem aw_54 : Cond.selects "RejudgeHallModel" yX8_firstFailed yX8_firstFailed ∈ AW := aw_of (i := 54) (by decide +kernel) rfl
theorem aw_55 : Cond.selects "RejudgeHallModel" yX8_isEntry yX8_isEntry ∈ AW := aw_of (i := 55) (by decide +kernel) rfl
theorem aw_56 : Cond.selects "RejudgeHallModel" yX8_areAlike yX8_areAlike ∈ AW := aw_of (i := 56) (by decide +kernel) rfl
theorem aw_57 : Cond.selects "RejudgeHallModel" yX8_tells yX8_tells ∈ AW := aw_of (i := 57) (by decide +kernel) rfl
theorem aw_58 : Cond.selects "RejudgeHallModel" yX8_isLate yX8_isLate ∈ AW := aw_of (i := 58) (by decide +kernel) rfl
theorem aw_59 : Cond.selects "RejudgeHallModel" yX8_boards yX8_boards ∈ AW := aw_of (i := 59) (by decide +kernel) rfl
theorem aw_60 : Cond.selects "RejudgeHallModel" yX8_counts yX8_counts ∈ AW := aw_of (i := 60) (by decide +kernel) rfl
theorem aw_61 : Cond.selects "RejudgeHallModel" yX8_toReveal yX8_toReveal ∈ AW := aw_of (i := 61) (by decide +kernel) rfl
theorem aw_62 : Cond.selects "RejudgeHallModel" yX8_isAhead yX8_isAhead ∈ AW := aw_of (i := 62) (by decide +kernel) rfl
theorem aw_63 : Cond.selects "RejudgeHallModel" yX8_placeOf yX8_placeOf ∈ AW := aw_of (i := 63) (by decide +kernel) rfl
theorem aw_64 : Cond.initialized "RejudgeHallLaw" ∈ AW := aw_of (i := 64) (by decide +kernel) rfl
theorem aw_65 : Cond.initialized "RejudgeHall" ∈ AW := aw_of (i := 65) (by decide +kernel) rfl
theorem aw_66 : Cond.initialized "RejudgeHall$Program" ∈ AW := aw_of (i := 66) (by decide +kernel) rfl
theorem aw_67 : Cond.initialized "RejudgeHall$Row" ∈ AW := aw_of (i := 67) (by decide +kernel) rfl
theorem aw_68 : Cond.initialized "RejudgeHall$Machine" ∈ AW := aw_of (i := 68) (by decide +kernel) rfl
theorem aw_69 : Cond.initialized "java/util/AbstractCollection" ∈ AW := aw_of (i := 69) (by decide +kernel) rfl
theorem aw_70 : Cond.initialized "java/util/AbstractList" ∈ AW := aw_of (i := 70) (by decide +kernel) rfl
theorem aw_71 : Cond.initialized "java/util/ArrayList" ∈ AW := aw_of (i := 71) (by decide +kernel) rfl
theorem aw_72 : Cond.initialized "RejudgeHall$Standings" ∈ AW := aw_of (i := 72) (by decide +kernel) rfl
theorem aw_73 : Cond.initialized "RejudgeHallModel" ∈ AW := aw_of (i := 73) (by decide +kernel) rfl
theorem aw_74 : Cond.initialized "java/lang/Throwable" ∈ AW := aw_of (i := 74) (by decide +kernel) rfl
theorem aw_75 : Cond.initialized "java/lang/Exception" ∈ AW := aw_of (i := 75) (by decide +kernel) rfl
theorem aw_76 : Cond.initialized "java/lang/RuntimeException" ∈ AW := aw_of (i := 76) (by decide +kernel) rfl
theorem aw_77 : Cond.initialized "java/lang/IllegalArgumentException" ∈ AW := aw_of (i := 77) (by decide +kernel) rfl
theorem aw_78 : Cond.initialized "java/lang/IllegalStateException" ∈ AW := aw_of (i := 78) (by decide +kernel) rfl
theorem aw_79 : Cond.initialized "RejudgeHall$Problem" ∈ AW := aw_of (i := 79) (by decide +kernel) rfl
theorem aw_80 : Cond.initialized "java/util/Arrays" ∈ AW := aw_of (i := 80) (by decide +kernel) rfl
theorem aw_81 : Cond.initialized "java/lang/System" ∈ AW := aw_of (i := 81) (by decide +kernel) rfl
theorem aw_82 : Cond.initialized "jdk/internal/util/ArraysSupport" ∈ AW := aw_of (i := 82) (by decide +kernel) rfl
theorem aw_83 : Cond.initialized "java/lang/Math" ∈ AW := aw_of (i := 83) (by decide +kernel) rfl
theorem aw_84 : Cond.initialized "java/lang/IndexOutOfBoundsException" ∈ AW := aw_of (i := 84) (by decide +kernel) rfl
theorem aw_85 : Cond.initialized "java/util/Objects" ∈ AW := aw_of (i := 85) (by decide +kernel) rfl
theorem aw_86 : Cond.initialized "jdk/internal/util/Preconditions" ∈ AW := aw_of (i := 86) (by decide +kernel) rfl
theorem aw_87 : Cond.initialized "RejudgeHall$Trial" ∈ AW := aw_of (i := 87) (by decide +kernel) rfl
theorem aw_88 : Cond.initialized "RejudgeHall$Entry" ∈ AW := aw_of (i := 88) (by decide +kernel) rfl
theorem aw_89 : Cond.classLink "RejudgeHallLaw" 8 "RejudgeHall" ∈ AW := aw_of (i := 89) (by decide +kernel) rfl
theorem aw_90 : Cond.instantiable "RejudgeHall" 12 ∈ AW := aw_of (i := 90) (by decide +kernel) rfl
theorem aw_91 : Cond.methodLink "RejudgeHallLaw" 72 yX7_init ∈ AW := aw_of (i := 91) (by decide +kernel) rfl
theorem aw_92 : Cond.instanceMethod yX7_init ∈ AW := aw_of (i := 92) (by decide +kernel) rfl
theorem aw_93 : Cond.code yX7_init prog_1_method_1_code 1 (none : Option Jvm.ClassFile.FieldType) ∈ AW := aw_of (i := 93) (by decide +kernel) rfl
theorem aw_94 : Cond.methodLink "RejudgeHall" 1 ⟨"java/lang/Object", "<init>", "()V"⟩ ∈ AW := aw_of (i := 94) (by decide +kernel) rfl
theorem aw_95 : Cond.instanceMethod ⟨"java/lang/Object", "<init>", "()V"⟩ ∈ AW := aw_of (i := 95) (by decide +kernel) rfl
theorem aw_96 : Cond.code ⟨"java/lang/Object", "<init>", "()V"⟩ object_method_1_code 1 (none : Option Jvm.ClassFile.FieldType) ∈ AW := aw_of (i := 96) (by decide +kernel) rfl
theorem aw_97 : Cond.classLink "RejudgeHall" 7 "RejudgeHall$Program" ∈ AW := aw_of (i := 97) (by decide +kernel) rfl
theorem aw_98 : Cond.instantiable "RejudgeHall$Program" 3 ∈ AW := aw_of (i := 98) (by decide +kernel) rfl
theorem aw_99 : Cond.methodLinkNest "RejudgeHall" 9 yX3_init "RejudgeHall" ∈ AW := aw_of (i := 99) (by decide +kernel) rfl
theorem aw_100 : Cond.instanceMethod yX3_init ∈ AW := aw_of (i := 100) (by decide +kernel) rfl
theorem aw_101 : Cond.code yX3_init prog_5_method_1_code 1 (none : Option Jvm.ClassFile.FieldType) ∈ AW := aw_of (i := 101) (by decide +kernel) rfl
theorem aw_102 : Cond.methodLink "RejudgeHall$Program" 3 ⟨"java/lang/Object", "<init>", "()V"⟩ ∈ AW := aw_of (i := 102) (by decide +kernel) rfl
theorem aw_103 : Cond.fieldLink "RejudgeHall$Program" 9 "RejudgeHall$Program" "sorts" "[I" ∈ AW := aw_of (i := 103) (by decide +kernel) rfl
theorem aw_104 : Cond.fieldLinkNest "RejudgeHall$Machine" 45 "RejudgeHall$Program" "sorts" "[I" "RejudgeHall" ∈ AW := aw_of (i := 104) (by decide +kernel) rfl
theorem aw_105 : Cond.fieldLink "RejudgeHall$Program" 15 "RejudgeHall$Program" "numbers" "[I" ∈ AW := aw_of (i := 105) (by decide +kernel) rfl
theorem aw_106 : Cond.fieldLinkNest "RejudgeHall$Machine" 49 "RejudgeHall$Program" "numbers" "[I" "RejudgeHall" ∈ AW := aw_of (i := 106) (by decide +kernel) rfl
theorem aw_107 : Cond.fieldLink "RejudgeHall$Program" 18 "RejudgeHall$Program" "length" "I" ∈ AW := aw_of (i := 107) (by decide +kernel) rfl
theorem aw_108 : Cond.fieldLinkNest "RejudgeHall" 72 "RejudgeHall$Program" "length" "I" "RejudgeHall" ∈ AW := aw_of (i := 108) (by decide +kernel) rfl
theorem aw_109 : Cond.fieldLinkNest "RejudgeHall$Machine" 34 "RejudgeHall$Program" "length" "I" "RejudgeHall" ∈ AW := aw_of (i := 109) (by decide +kernel) rfl
theorem aw_117 : Cond.arrayClass .int ∈ AW := aw_of (i := 117) (by decide +kernel) rfl
theorem aw_118 : Cond.classLink "RejudgeHall" 16 "RejudgeHall$Row" ∈ AW := aw_of (i := 118) (by decide +kernel) rfl
theorem aw_119 : Cond.instantiable "RejudgeHall$Row" 2 ∈ AW := aw_of (i := 119) (by decide +kernel) rfl
theorem aw_120 : Cond.methodLinkNest "RejudgeHall" 18 yX4_init "RejudgeHall" ∈ AW := aw_of (i := 120) (by decide +kernel) rfl
theorem aw_121 : Cond.instanceMethod yX4_init ∈ AW := aw_of (i := 121) (by decide +kernel) rfl
theorem aw_122 : Cond.code yX4_init prog_6_method_1_code 1 (none : Option Jvm.ClassFile.FieldType) ∈ AW := aw_of (i := 122) (by decide +kernel) rfl
theorem aw_123 : Cond.methodLink "RejudgeHall$Row" 3 ⟨"java/lang/Object", "<init>", "()V"⟩ ∈ AW := aw_of (i := 123) (by decide +kernel) rfl
theorem aw_124 : Cond.fieldLink "RejudgeHall$Row" 9 "RejudgeHall$Row" "numbers" "[I" ∈ AW := aw_of (i := 124) (by decide +kernel) rfl
theorem aw_125 : Cond.fieldLink "RejudgeHall$Row" 15 "RejudgeHall$Row" "length" "I" ∈ AW := aw_of (i := 125) (by decide +kernel) rfl
theorem aw_126 : Cond.fieldLinkNest "RejudgeHall$Machine" 31 "RejudgeHall$Row" "length" "I" "RejudgeHall" ∈ AW := aw_of (i := 126) (by decide +kernel) rfl
theorem aw_127 : Cond.fieldLinkNest "RejudgeHall" 86 "RejudgeHall$Row" "length" "I" "RejudgeHall" ∈ AW := aw_of (i := 127) (by decide +kernel) rfl
theorem aw_133 : Cond.classLink "RejudgeHall" 23 "RejudgeHall$Machine" ∈ AW := aw_of (i := 133) (by decide +kernel) rfl
theorem aw_134 : Cond.instantiable "RejudgeHall$Machine" 5 ∈ AW := aw_of (i := 134) (by decide +kernel) rfl
theorem aw_135 : Cond.methodLinkNest "RejudgeHall" 25 yX1_init "RejudgeHall" ∈ AW := aw_of (i := 135) (by decide +kernel) rfl
theorem aw_136 : Cond.instanceMethod yX1_init ∈ AW := aw_of (i := 136) (by decide +kernel) rfl
theorem aw_137 : Cond.code yX1_init prog_3_method_1_code 1 (none : Option Jvm.ClassFile.FieldType) ∈ AW := aw_of (i := 137) (by decide +kernel) rfl
theorem aw_138 : Cond.methodLink "RejudgeHall$Machine" 3 ⟨"java/lang/Object", "<init>", "()V"⟩ ∈ AW := aw_of (i := 138) (by decide +kernel) rfl
theorem aw_139 : Cond.classLink "RejudgeHall$Machine" 9 "RejudgeHall$Row" ∈ AW := aw_of (i := 139) (by decide +kernel) rfl
theorem aw_140 : Cond.methodLinkNest "RejudgeHall$Machine" 11 yX4_init "RejudgeHall" ∈ AW := aw_of (i := 140) (by decide +kernel) rfl
theorem aw_141 : Cond.fieldLink "RejudgeHall$Machine" 12 "RejudgeHall$Machine" "stack" "LRejudgeHall$Row;" ∈ AW := aw_of (i := 141) (by decide +kernel) rfl
theorem aw_142 : Cond.fieldLink "RejudgeHall$Machine" 18 "RejudgeHall$Machine" "output" "LRejudgeHall$Row;" ∈ AW := aw_of (i := 142) (by decide +kernel) rfl
theorem aw_143 : Cond.fieldLinkNest "RejudgeHall" 100 "RejudgeHall$Machine" "output" "LRejudgeHall$Row;" "RejudgeHall" ∈ AW := aw_of (i := 143) (by decide +kernel) rfl
theorem aw_144 : Cond.fieldLink "RejudgeHall$Machine" 21 "RejudgeHall$Machine" "steps" "I" ∈ AW := aw_of (i := 144) (by decide +kernel) rfl
theorem aw_145 : Cond.fieldLinkNest "RejudgeHall" 97 "RejudgeHall$Machine" "steps" "I" "RejudgeHall" ∈ AW := aw_of (i := 145) (by decide +kernel) rfl
theorem aw_146 : Cond.fieldLink "RejudgeHall$Machine" 25 "RejudgeHall$Machine" "next" "I" ∈ AW := aw_of (i := 146) (by decide +kernel) rfl
theorem aw_147 : Cond.fieldLink "RejudgeHall$Machine" 28 "RejudgeHall$Machine" "inputsRead" "I" ∈ AW := aw_of (i := 147) (by decide +kernel) rfl
theorem aw_159 : Cond.classLink "RejudgeHall" 30 "java/util/ArrayList" ∈ AW := aw_of (i := 159) (by decide +kernel) rfl
theorem aw_160 : Cond.instantiable "java/util/ArrayList" 3 ∈ AW := aw_of (i := 160) (by decide +kernel) rfl
theorem aw_161 : Cond.methodLink "RejudgeHall" 32 yJx4a65c_init_da8c8 ∈ AW := aw_of (i := 161) (by decide +kernel) rfl
theorem aw_162 : Cond.instanceMethod yJx4a65c_init_da8c8 ∈ AW := aw_of (i := 162) (by decide +kernel) rfl
theorem aw_163 : Cond.code yJx4a65c_init_da8c8 prog_25_method_2_code 1 (none : Option Jvm.ClassFile.FieldType) ∈ AW := aw_of (i := 163) (by decide +kernel) rfl
theorem aw_164 : Cond.methodLink "java/util/ArrayList" 1 yJxc12de_init_da8c8 ∈ AW := aw_of (i := 164) (by decide +kernel) rfl
theorem aw_165 : Cond.instanceMethod yJxc12de_init_da8c8 ∈ AW := aw_of (i := 165) (by decide +kernel) rfl
theorem aw_166 : Cond.code yJxc12de_init_da8c8 prog_24_method_1_code 1 (none : Option Jvm.ClassFile.FieldType) ∈ AW := aw_of (i := 166) (by decide +kernel) rfl
theorem aw_167 : Cond.methodLink "java/util/AbstractList" 1 yJxa1e45_init_da8c8 ∈ AW := aw_of (i := 167) (by decide +kernel) rfl
theorem aw_168 : Cond.instanceMethod yJxa1e45_init_da8c8 ∈ AW := aw_of (i := 168) (by decide +kernel) rfl
theorem aw_169 : Cond.code yJxa1e45_init_da8c8 prog_23_method_1_code 1 (none : Option Jvm.ClassFile.FieldType) ∈ AW := aw_of (i := 169) (by decide +kernel) rfl
theorem aw_170 : Cond.methodLink "java/util/AbstractCollection" 1 ⟨"java/lang/Object", "<init>", "()V"⟩ ∈ AW := aw_of (i := 170) (by decide +kernel) rfl
theorem aw_171 : Cond.fieldLink "java/util/ArrayList" 39 "java/util/ArrayList" "DEFAULTCAPACITY_EMPTY_ELEMENTDATA" "[Ljava/lang/Object;" ∈ AW := aw_of (i := 171) (by decide +kernel) rfl
theorem aw_173 : Cond.fieldLink "java/util/ArrayList" 9 "java/util/ArrayList" "elementData" "[Ljava/lang/Object;" ∈ AW := aw_of (i := 173) (by decide +kernel) rfl
theorem aw_174 : Cond.fieldLink "java/util/ArrayList" 48 "java/util/ArrayList" "size" "I" ∈ AW := aw_of (i := 174) (by decide +kernel) rfl
theorem aw_175 : Cond.fieldLink "java/util/AbstractList" 7 "java/util/AbstractList" "modCount" "I" ∈ AW := aw_of (i := 175) (by decide +kernel) rfl
theorem aw_176 : Cond.fieldLink "java/util/ArrayList" 63 "java/util/ArrayList" "modCount" "I" ∈ AW := aw_of (i := 176) (by decide +kernel) rfl
theorem aw_177 : Cond.sameField "java/util/ArrayList" "java/util/AbstractList" "modCount" "I" ∈ AW := aw_of (i := 177) (by decide +kernel) rfl
theorem aw_185 : Cond.classLink "RejudgeHall" 40 "RejudgeHall$Standings" ∈ AW := aw_of (i := 185) (by decide +kernel) rfl
theorem aw_186 : Cond.instantiable "RejudgeHall$Standings" 5 ∈ AW := aw_of (i := 186) (by decide +kernel) rfl
theorem aw_187 : Cond.methodLinkNest "RejudgeHall" 42 yX5_init "RejudgeHall" ∈ AW := aw_of (i := 187) (by decide +kernel) rfl
theorem aw_188 : Cond.instanceMethod yX5_init ∈ AW := aw_of (i := 188) (by decide +kernel) rfl
theorem aw_189 : Cond.code yX5_init prog_7_method_1_code 1 (none : Option Jvm.ClassFile.FieldType) ∈ AW := aw_of (i := 189) (by decide +kernel) rfl
theorem aw_190 : Cond.methodLink "RejudgeHall$Standings" 3 ⟨"java/lang/Object", "<init>", "()V"⟩ ∈ AW := aw_of (i := 190) (by decide +kernel) rfl
theorem aw_191 : Cond.fieldLink "RejudgeHall$Standings" 9 "RejudgeHall$Standings" "solved" "[I" ∈ AW := aw_of (i := 191) (by decide +kernel) rfl
theorem aw_192 : Cond.fieldLinkNest "RejudgeHall" 261 "RejudgeHall$Standings" "solved" "[I" "RejudgeHall" ∈ AW := aw_of (i := 192) (by decide +kernel) rfl
theorem aw_193 : Cond.fieldLink "RejudgeHall$Standings" 15 "RejudgeHall$Standings" "sums" "[I" ∈ AW := aw_of (i := 193) (by decide +kernel) rfl
theorem aw_194 : Cond.fieldLinkNest "RejudgeHall" 264 "RejudgeHall$Standings" "sums" "[I" "RejudgeHall" ∈ AW := aw_of (i := 194) (by decide +kernel) rfl
theorem aw_195 : Cond.fieldLink "RejudgeHall$Standings" 18 "RejudgeHall$Standings" "latest" "[I" ∈ AW := aw_of (i := 195) (by decide +kernel) rfl
theorem aw_196 : Cond.fieldLinkNest "RejudgeHall" 267 "RejudgeHall$Standings" "latest" "[I" "RejudgeHall" ∈ AW := aw_of (i := 196) (by decide +kernel) rfl
theorem aw_197 : Cond.fieldLink "RejudgeHall$Standings" 21 "RejudgeHall$Standings" "tries" "[I" ∈ AW := aw_of (i := 197) (by decide +kernel) rfl
theorem aw_198 : Cond.fieldLink "RejudgeHall$Standings" 24 "RejudgeHall$Standings" "isSolved" "[Z" ∈ AW := aw_of (i := 198) (by decide +kernel) rfl
theorem aw_210 : Cond.arrayClass .boolean ∈ AW := aw_of (i := 210) (by decide +kernel) rfl
theorem aw_211 : Cond.fieldLink "RejudgeHall" 10 "RejudgeHall" "deskProgram" "LRejudgeHall$Program;" ∈ AW := aw_of (i := 211) (by decide +kernel) rfl
theorem aw_212 : Cond.fieldLink "RejudgeHall" 19 "RejudgeHall" "deskInput" "LRejudgeHall$Row;" ∈ AW := aw_of (i := 212) (by decide +kernel) rfl
theorem aw_213 : Cond.fieldLink "RejudgeHall" 26 "RejudgeHall" "machine" "LRejudgeHall$Machine;" ∈ AW := aw_of (i := 213) (by decide +kernel) rfl
theorem aw_214 : Cond.fieldLink "RejudgeHall" 33 "RejudgeHall" "problems" "Ljava/util/ArrayList;" ∈ AW := aw_of (i := 214) (by decide +kernel) rfl
theorem aw_215 : Cond.fieldLink "RejudgeHall" 37 "RejudgeHall" "entries" "Ljava/util/ArrayList;" ∈ AW := aw_of (i := 215) (by decide +kernel) rfl
theorem aw_216 : Cond.fieldLink "RejudgeHall" 43 "RejudgeHall" "standings" "LRejudgeHall$Standings;" ∈ AW := aw_of (i := 216) (by decide +kernel) rfl
theorem aw_217 : Cond.fieldLink "RejudgeHall" 47 "RejudgeHall" "judgings" "[I" ∈ AW := aw_of (i := 217) (by decide +kernel) rfl
theorem aw_218 : Cond.fieldLink "RejudgeHall" 51 "RejudgeHall" "hacks" "[I" ∈ AW := aw_of (i := 218) (by decide +kernel) rfl
theorem aw_219 : Cond.fieldLink "RejudgeHall" 54 "RejudgeHall" "revealed" "[Z" ∈ AW := aw_of (i := 219) (by decide +kernel) rfl
theorem aw_220 : Cond.fieldLink "RejudgeHall" 58 "RejudgeHall" "commonRow" "[I" ∈ AW := aw_of (i := 220) (by decide +kernel) rfl
theorem aw_221 : Cond.fieldLink "RejudgeHall" 61 "RejudgeHall" "minute" "I" ∈ AW := aw_of (i := 221) (by decide +kernel) rfl
theorem aw_222 : Cond.fieldLink "RejudgeHall" 65 "RejudgeHall" "frozenFrom" "I" ∈ AW := aw_of (i := 222) (by decide +kernel) rfl
theorem aw_248 : Cond.methodLink "RejudgeHallLaw" 90 yX7_clear ∈ AW := aw_of (i := 248) (by decide +kernel) rfl
theorem aw_249 : Cond.instanceMethod yX7_clear ∈ AW := aw_of (i := 249) (by decide +kernel) rfl
theorem aw_250 : Cond.selects "RejudgeHall" yX7_clear yX7_clear ∈ AW := aw_of (i := 250) (by decide +kernel) rfl
theorem aw_251 : Cond.code yX7_clear prog_1_method_4_code 2 (some .int) ∈ AW := aw_of (i := 251) (by decide +kernel) rfl
theorem aw_252 : Cond.methodLink "RejudgeHallLaw" 119 yX7_judge ∈ AW := aw_of (i := 252) (by decide +kernel) rfl
theorem aw_253 : Cond.instanceMethod yX7_judge ∈ AW := aw_of (i := 253) (by decide +kernel) rfl
theorem aw_254 : Cond.selects "RejudgeHall" yX7_judge yX7_judge ∈ AW := aw_of (i := 254) (by decide +kernel) rfl
theorem aw_255 : Cond.code yX7_judge prog_1_method_13_code 5 (some .int) ∈ AW := aw_of (i := 255) (by decide +kernel) rfl
theorem aw_256 : Cond.methodLink "RejudgeHall" 107 yJx4a65c_size_8abf5 ∈ AW := aw_of (i := 256) (by decide +kernel) rfl
theorem aw_257 : Cond.instanceMethod yJx4a65c_size_8abf5 ∈ AW := aw_of (i := 257) (by decide +kernel) rfl
theorem aw_258 : Cond.selects "java/util/ArrayList" yJx4a65c_size_8abf5 yJx4a65c_size_8abf5 ∈ AW := aw_of (i := 258) (by decide +kernel) rfl
theorem aw_259 : Cond.code yJx4a65c_size_8abf5 prog_25_method_8_code 1 (some .int) ∈ AW := aw_of (i := 259) (by decide +kernel) rfl
theorem aw_260 : Cond.methodLink "RejudgeHall" 182 yJx4a65c_get_915e3 ∈ AW := aw_of (i := 260) (by decide +kernel) rfl
theorem aw_261 : Cond.instanceMethod yJx4a65c_get_915e3 ∈ AW := aw_of (i := 261) (by decide +kernel) rfl
theorem aw_262 : Cond.selects "java/util/ArrayList" yJx4a65c_get_915e3 yJx4a65c_get_915e3 ∈ AW := aw_of (i := 262) (by decide +kernel) rfl
theorem aw_263 : Cond.code yJx4a65c_get_915e3 prog_25_method_20_code 2 (some (.object "java/lang/Object")) ∈ AW := aw_of (i := 263) (by decide +kernel) rfl
theorem aw_264 : Cond.methodLink "java/util/ArrayList" 118 yJ15_checkIndex_7cf53 ∈ AW := aw_of (i := 264) (by decide +kernel) rfl
theorem aw_265 : Cond.static yJ15_checkIndex_7cf53 ∈ AW := aw_of (i := 265) (by decide +kernel) rfl
theorem aw_266 : Cond.code yJ15_checkIndex_7cf53 prog_29_method_17_code 2 (some .int) ∈ AW := aw_of (i := 266) (by decide +kernel) rfl
theorem aw_267 : Cond.methodLink "java/util/Objects" 105 yJ3_checkIndex_8e157 ∈ AW := aw_of (i := 267) (by decide +kernel) rfl
theorem aw_268 : Cond.static yJ3_checkIndex_8e157 ∈ AW := aw_of (i := 268) (by decide +kernel) rfl
theorem aw_269 : Cond.code yJ3_checkIndex_8e157 prog_33_method_11_code 3 (some .int) ∈ AW := aw_of (i := 269) (by decide +kernel) rfl
theorem aw_270 : Cond.methodLink "java/util/ArrayList" 123 yJx4a65c_elementData_915e3 ∈ AW := aw_of (i := 270) (by decide +kernel) rfl
theorem aw_271 : Cond.instanceMethod yJx4a65c_elementData_915e3 ∈ AW := aw_of (i := 271) (by decide +kernel) rfl
theorem aw_272 : Cond.selects "java/util/ArrayList" yJx4a65c_elementData_915e3 yJx4a65c_elementData_915e3 ∈ AW := aw_of (i := 272) (by decide +kernel) rfl
theorem aw_273 : Cond.code yJx4a65c_elementData_915e3 prog_25_method_18_code 2 (some (.object "java/lang/Object")) ∈ AW := aw_of (i := 273) (by decide +kernel) rfl
theorem aw_274 : Cond.classLink "RejudgeHall" 191 "RejudgeHall$Entry" ∈ AW := aw_of (i := 274) (by decide +kernel) rfl
theorem aw_275 : Cond.methodLinkNest "RejudgeHall" 201 yX0_waits "RejudgeHall" ∈ AW := aw_of (i := 275) (by decide +kernel) rfl
theorem aw_277 : Cond.instanceMethod yX0_waits ∈ AW := aw_of (i := 277) (by decide +kernel) rfl
theorem aw_278 : Cond.instantiable "RejudgeHall$Entry" 8 ∈ AW := aw_of (i := 278) (by decide +kernel) rfl
theorem aw_279 : Cond.code yX0_waits prog_2_method_2_code 1 (some .boolean) ∈ AW := aw_of (i := 279) (by decide +kernel) rfl
theorem aw_280 : Cond.methodLink "RejudgeHall" 208 yX7_giveVerdict ∈ AW := aw_of (i := 280) (by decide +kernel) rfl
theorem aw_282 : Cond.instanceMethod yX7_giveVerdict ∈ AW := aw_of (i := 282) (by decide +kernel) rfl
theorem aw_283 : Cond.code yX7_giveVerdict prog_1_method_31_code 8 (none : Option Jvm.ClassFile.FieldType) ∈ AW := aw_of (i := 283) (by decide +kernel) rfl
theorem aw_284 : Cond.classLink "RejudgeHall" 149 "RejudgeHall$Trial" ∈ AW := aw_of (i := 284) (by decide +kernel) rfl
theorem aw_285 : Cond.methodLink "RejudgeHall" 291 yX7_tryOut ∈ AW := aw_of (i := 285) (by decide +kernel) rfl
theorem aw_287 : Cond.instanceMethod yX7_tryOut ∈ AW := aw_of (i := 287) (by decide +kernel) rfl
theorem aw_288 : Cond.code yX7_tryOut prog_1_method_29_code 5 (some .int) ∈ AW := aw_of (i := 288) (by decide +kernel) rfl
theorem aw_289 : Cond.methodLinkNest "RejudgeHall" 93 yX1_execute "RejudgeHall" ∈ AW := aw_of (i := 289) (by decide +kernel) rfl
theorem aw_291 : Cond.instanceMethod yX1_execute ∈ AW := aw_of (i := 291) (by decide +kernel) rfl
theorem aw_292 : Cond.code yX1_execute prog_3_method_2_code 5 (some .int) ∈ AW := aw_of (i := 292) (by decide +kernel) rfl
theorem aw_293 : Cond.methodLink "RejudgeHall$Machine" 37 yX1_step ∈ AW := aw_of (i := 293) (by decide +kernel) rfl
theorem aw_295 : Cond.instanceMethod yX1_step ∈ AW := aw_of (i := 295) (by decide +kernel) rfl
theorem aw_296 : Cond.code yX1_step prog_3_method_3_code 5 (some .int) ∈ AW := aw_of (i := 296) (by decide +kernel) rfl
theorem aw_297 : Cond.methodLinkNest "RejudgeHall$Machine" 41 yX3_has "RejudgeHall" ∈ AW := aw_of (i := 297) (by decide +kernel) rfl
theorem aw_299 : Cond.instanceMethod yX3_has ∈ AW := aw_of (i := 299) (by decide +kernel) rfl
theorem aw_300 : Cond.code yX3_has prog_5_method_4_code 2 (some .boolean) ∈ AW := aw_of (i := 300) (by decide +kernel) rfl
theorem aw_301 : Cond.methodLinkNest "RejudgeHall$Machine" 52 yX4_at "RejudgeHall" ∈ AW := aw_of (i := 301) (by decide +kernel) rfl
theorem aw_303 : Cond.instanceMethod yX4_at ∈ AW := aw_of (i := 303) (by decide +kernel) rfl
theorem aw_304 : Cond.code yX4_at prog_6_method_5_code 2 (some .int) ∈ AW := aw_of (i := 304) (by decide +kernel) rfl
theorem aw_305 : Cond.methodLink "RejudgeHall$Machine" 56 yX1_put ∈ AW := aw_of (i := 305) (by decide +kernel) rfl
theorem aw_307 : Cond.instanceMethod yX1_put ∈ AW := aw_of (i := 307) (by decide +kernel) rfl
theorem aw_308 : Cond.code yX1_put prog_3_method_4_code 2 (some .int) ∈ AW := aw_of (i := 308) (by decide +kernel) rfl
theorem aw_309 : Cond.methodLinkNest "RejudgeHall$Machine" 76 yX4_isFull "RejudgeHall" ∈ AW := aw_of (i := 309) (by decide +kernel) rfl
theorem aw_311 : Cond.instanceMethod yX4_isFull ∈ AW := aw_of (i := 311) (by decide +kernel) rfl
theorem aw_312 : Cond.code yX4_isFull prog_6_method_2_code 1 (some .boolean) ∈ AW := aw_of (i := 312) (by decide +kernel) rfl
theorem aw_313 : Cond.methodLinkNest "RejudgeHall$Machine" 80 yX4_push "RejudgeHall" ∈ AW := aw_of (i := 313) (by decide +kernel) rfl
theorem aw_315 : Cond.instanceMethod yX4_push ∈ AW := aw_of (i := 315) (by decide +kernel) rfl
theorem aw_316 : Cond.code yX4_push prog_6_method_3_code 2 (none : Option Jvm.ClassFile.FieldType) ∈ AW := aw_of (i := 316) (by decide +kernel) rfl
theorem aw_317 : Cond.methodLink "RejudgeHall$Machine" 59 yX1_make ∈ AW := aw_of (i := 317) (by decide +kernel) rfl
theorem aw_319 : Cond.instanceMethod yX1_make ∈ AW := aw_of (i := 319) (by decide +kernel) rfl
theorem aw_320 : Cond.code yX1_make prog_3_method_5_code 8 (some .int) ∈ AW := aw_of (i := 320) (by decide +kernel) rfl
theorem aw_321 : Cond.methodLinkNest "RejudgeHall$Machine" 84 yX4_pop "RejudgeHall" ∈ AW := aw_of (i := 321) (by decide +kernel) rfl
theorem aw_323 : Cond.instanceMethod yX4_pop ∈ AW := aw_of (i := 323) (by decide +kernel) rfl
theorem aw_324 : Cond.code yX4_pop prog_6_method_4_code 1 (some .int) ∈ AW := aw_of (i := 324) (by decide +kernel) rfl
theorem aw_325 : Cond.constantLong "RejudgeHall$Machine" 87 (999999 : Int64) ∈ AW := aw_of (i := 325) (by decide +kernel) rfl
theorem aw_326 : Cond.constantLong "RejudgeHall$Machine" 89 (-999999 : Int64) ∈ AW := aw_of (i := 326) (by decide +kernel) rfl
theorem aw_327 : Cond.methodLink "RejudgeHall$Machine" 62 yX1_swap ∈ AW := aw_of (i := 327) (by decide +kernel) rfl
theorem aw_329 : Cond.instanceMethod yX1_swap ∈ AW := aw_of (i := 329) (by decide +kernel) rfl
theorem aw_330 : Cond.code yX1_swap prog_3_method_6_code 3 (some .int) ∈ AW := aw_of (i := 330) (by decide +kernel) rfl
theorem aw_331 : Cond.methodLink "RejudgeHall$Machine" 66 yX1_goIfZero ∈ AW := aw_of (i := 331) (by decide +kernel) rfl
theorem aw_333 : Cond.instanceMethod yX1_goIfZero ∈ AW := aw_of (i := 333) (by decide +kernel) rfl
theorem aw_334 : Cond.code yX1_goIfZero prog_3_method_7_code 3 (some .int) ∈ AW := aw_of (i := 334) (by decide +kernel) rfl
theorem aw_335 : Cond.methodLink "RejudgeHall$Machine" 70 yX1_goTo ∈ AW := aw_of (i := 335) (by decide +kernel) rfl
theorem aw_337 : Cond.instanceMethod yX1_goTo ∈ AW := aw_of (i := 337) (by decide +kernel) rfl
theorem aw_338 : Cond.code yX1_goTo prog_3_method_8_code 3 (some .int) ∈ AW := aw_of (i := 338) (by decide +kernel) rfl
theorem aw_339 : Cond.methodLink "RejudgeHall$Machine" 73 yX1_print ∈ AW := aw_of (i := 339) (by decide +kernel) rfl
theorem aw_341 : Cond.instanceMethod yX1_print ∈ AW := aw_of (i := 341) (by decide +kernel) rfl
theorem aw_342 : Cond.code yX1_print prog_3_method_9_code 1 (some .int) ∈ AW := aw_of (i := 342) (by decide +kernel) rfl
theorem aw_343 : Cond.methodLinkNest "RejudgeHall" 312 yX4_isWithin "RejudgeHall" ∈ AW := aw_of (i := 343) (by decide +kernel) rfl
theorem aw_345 : Cond.instanceMethod yX4_isWithin ∈ AW := aw_of (i := 345) (by decide +kernel) rfl
theorem aw_346 : Cond.code yX4_isWithin prog_6_method_7_code 4 (some .boolean) ∈ AW := aw_of (i := 346) (by decide +kernel) rfl
theorem aw_347 : Cond.methodLink "RejudgeHall$Row" 25 yX4_at ∈ AW := aw_of (i := 347) (by decide +kernel) rfl
theorem aw_348 : Cond.methodLink "RejudgeHall$Row" 29 yJ9_abs_0f7a4 ∈ AW := aw_of (i := 348) (by decide +kernel) rfl
theorem aw_349 : Cond.static yJ9_abs_0f7a4 ∈ AW := aw_of (i := 349) (by decide +kernel) rfl
theorem aw_350 : Cond.code yJ9_abs_0f7a4 prog_18_method_59_code 1 (some .int) ∈ AW := aw_of (i := 350) (by decide +kernel) rfl
theorem aw_351 : Cond.methodLinkNest "RejudgeHall" 319 yX2_pointsOf "RejudgeHall" ∈ AW := aw_of (i := 351) (by decide +kernel) rfl
theorem aw_353 : Cond.instanceMethod yX2_pointsOf ∈ AW := aw_of (i := 353) (by decide +kernel) rfl
theorem aw_354 : Cond.instantiable "RejudgeHall$Problem" 7 ∈ AW := aw_of (i := 354) (by decide +kernel) rfl
theorem aw_355 : Cond.code yX2_pointsOf prog_4_method_3_code 4 (some .int) ∈ AW := aw_of (i := 355) (by decide +kernel) rfl
theorem aw_356 : Cond.methodLink "RejudgeHallLaw" 136 yX7_reveal ∈ AW := aw_of (i := 356) (by decide +kernel) rfl
theorem aw_357 : Cond.instanceMethod yX7_reveal ∈ AW := aw_of (i := 357) (by decide +kernel) rfl
theorem aw_358 : Cond.selects "RejudgeHall" yX7_reveal yX7_reveal ∈ AW := aw_of (i := 358) (by decide +kernel) rfl
theorem aw_359 : Cond.code yX7_reveal prog_1_method_18_code 3 (some .int) ∈ AW := aw_of (i := 359) (by decide +kernel) rfl
theorem aw_360 : Cond.methodLink "RejudgeHall" 244 yX7_countVerdicts ∈ AW := aw_of (i := 360) (by decide +kernel) rfl
theorem aw_362 : Cond.instanceMethod yX7_countVerdicts ∈ AW := aw_of (i := 362) (by decide +kernel) rfl
theorem aw_363 : Cond.code yX7_countVerdicts prog_1_method_37_code 4 (none : Option Jvm.ClassFile.FieldType) ∈ AW := aw_of (i := 363) (by decide +kernel) rfl
theorem aw_364 : Cond.methodLinkNest "RejudgeHall" 270 yX5_wipe "RejudgeHall" ∈ AW := aw_of (i := 364) (by decide +kernel) rfl
theorem aw_366 : Cond.instanceMethod yX5_wipe ∈ AW := aw_of (i := 366) (by decide +kernel) rfl
theorem aw_367 : Cond.code yX5_wipe prog_7_method_2_code 2 (none : Option Jvm.ClassFile.FieldType) ∈ AW := aw_of (i := 367) (by decide +kernel) rfl
theorem aw_368 : Cond.methodLink "RejudgeHall$Standings" 28 yJ7_fill_53178 ∈ AW := aw_of (i := 368) (by decide +kernel) rfl
theorem aw_369 : Cond.static yJ7_fill_53178 ∈ AW := aw_of (i := 369) (by decide +kernel) rfl
theorem aw_370 : Cond.code yJ7_fill_53178 prog_26_method_103_code 4 (none : Option Jvm.ClassFile.FieldType) ∈ AW := aw_of (i := 370) (by decide +kernel) rfl
theorem aw_371 : Cond.methodLink "RejudgeHall" 338 yX7_isHidden ∈ AW := aw_of (i := 371) (by decide +kernel) rfl
theorem aw_373 : Cond.instanceMethod yX7_isHidden ∈ AW := aw_of (i := 373) (by decide +kernel) rfl
theorem aw_374 : Cond.code yX7_isHidden prog_1_method_36_code 2 (some .boolean) ∈ AW := aw_of (i := 374) (by decide +kernel) rfl
theorem aw_375 : Cond.methodLink "RejudgeHall" 335 yX7_isLate ∈ AW := aw_of (i := 375) (by decide +kernel) rfl
theorem aw_377 : Cond.instanceMethod yX7_isLate ∈ AW := aw_of (i := 377) (by decide +kernel) rfl
theorem aw_378 : Cond.code yX7_isLate prog_1_method_35_code 2 (some .boolean) ∈ AW := aw_of (i := 378) (by decide +kernel) rfl
theorem aw_379 : Cond.methodLink "RejudgeHall" 255 yX7_pairOf ∈ AW := aw_of (i := 379) (by decide +kernel) rfl
theorem aw_380 : Cond.static yX7_pairOf ∈ AW := aw_of (i := 380) (by decide +kernel) rfl
theorem aw_381 : Cond.code yX7_pairOf prog_1_method_34_code 2 (some .int) ∈ AW := aw_of (i := 381) (by decide +kernel) rfl
theorem aw_382 : Cond.methodLinkNest "RejudgeHall" 277 yX5_count "RejudgeHall" ∈ AW := aw_of (i := 382) (by decide +kernel) rfl
theorem aw_384 : Cond.instanceMethod yX5_count ∈ AW := aw_of (i := 384) (by decide +kernel) rfl
theorem aw_385 : Cond.code yX5_count prog_7_method_3_code 4 (none : Option Jvm.ClassFile.FieldType) ∈ AW := aw_of (i := 385) (by decide +kernel) rfl
theorem aw_386 : Cond.methodLinkNest "RejudgeHall$Standings" 49 yX7_pairOf "RejudgeHall" ∈ AW := aw_of (i := 386) (by decide +kernel) rfl
theorem aw_387 : Cond.methodLink "RejudgeHall$Standings" 56 yJ9_max_7cf53 ∈ AW := aw_of (i := 387) (by decide +kernel) rfl
theorem aw_388 : Cond.static yJ9_max_7cf53 ∈ AW := aw_of (i := 388) (by decide +kernel) rfl
theorem aw_389 : Cond.code yJ9_max_7cf53 prog_18_method_65_code 2 (some .int) ∈ AW := aw_of (i := 389) (by decide +kernel) rfl
theorem aw_390 : Cond.methodLink "RejudgeHall" 248 yX7_lowestHidden ∈ AW := aw_of (i := 390) (by decide +kernel) rfl
theorem aw_392 : Cond.instanceMethod yX7_lowestHidden ∈ AW := aw_of (i := 392) (by decide +kernel) rfl
theorem aw_393 : Cond.code yX7_lowestHidden prog_1_method_38_code 6 (some .int) ∈ AW := aw_of (i := 393) (by decide +kernel) rfl
theorem aw_394 : Cond.methodLink "RejudgeHall" 332 yJ9_min_7cf53 ∈ AW := aw_of (i := 394) (by decide +kernel) rfl
theorem aw_395 : Cond.static yJ9_min_7cf53 ∈ AW := aw_of (i := 395) (by decide +kernel) rfl
theorem aw_396 : Cond.code yJ9_min_7cf53 prog_18_method_69_code 2 (some .int) ∈ AW := aw_of (i := 396) (by decide +kernel) rfl
theorem aw_397 : Cond.methodLinkNest "RejudgeHall" 251 yX5_isAhead "RejudgeHall" ∈ AW := aw_of (i := 397) (by decide +kernel) rfl
theorem aw_399 : Cond.instanceMethod yX5_isAhead ∈ AW := aw_of (i := 399) (by decide +kernel) rfl
theorem aw_400 : Cond.code yX5_isAhead prog_7_method_4_code 3 (some .boolean) ∈ AW := aw_of (i := 400) (by decide +kernel) rfl
theorem aw_401 : Cond.methodLink "RejudgeHallLaw" 76 yL_code ∈ AW := aw_of (i := 401) (by decide +kernel) rfl
theorem aw_402 : Cond.static yL_code ∈ AW := aw_of (i := 402) (by decide +kernel) rfl
theorem aw_403 : Cond.codeWith yL_code method_3_code 5 (some .int) [(0, 10, 13, 13), (0, 10, 17, 15)] ∈ AW := aw_of (i := 403) (by decide +kernel) rfl
theorem aw_404 : Cond.classLink "RejudgeHallLaw" 13 "java/lang/IllegalArgumentException" ∈ AW := aw_of (i := 404) (by decide +kernel) rfl
theorem aw_405 : Cond.classLink "RejudgeHallLaw" 15 "java/lang/IllegalStateException" ∈ AW := aw_of (i := 405) (by decide +kernel) rfl
theorem aw_406 : Cond.methodLink "RejudgeHallLaw" 7 yX7_code ∈ AW := aw_of (i := 406) (by decide +kernel) rfl
theorem aw_407 : Cond.instanceMethod yX7_code ∈ AW := aw_of (i := 407) (by decide +kernel) rfl
theorem aw_408 : Cond.selects "RejudgeHall" yX7_code yX7_code ∈ AW := aw_of (i := 408) (by decide +kernel) rfl
theorem aw_409 : Cond.code yX7_code prog_1_method_2_code 3 (some .int) ∈ AW := aw_of (i := 409) (by decide +kernel) rfl
theorem aw_410 : Cond.methodLink "RejudgeHall" 68 yX7_needRange ∈ AW := aw_of (i := 410) (by decide +kernel) rfl
theorem aw_411 : Cond.static yX7_needRange ∈ AW := aw_of (i := 411) (by decide +kernel) rfl
theorem aw_412 : Cond.code yX7_needRange prog_1_method_22_code 3 (none : Option Jvm.ClassFile.FieldType) ∈ AW := aw_of (i := 412) (by decide +kernel) rfl
theorem aw_413 : Cond.classLink "RejudgeHall" 295 "java/lang/IllegalArgumentException" ∈ AW := aw_of (i := 413) (by decide +kernel) rfl
theorem aw_414 : Cond.instantiable "java/lang/IllegalArgumentException" 6 ∈ AW := aw_of (i := 414) (by decide +kernel) rfl
theorem aw_415 : Cond.castable "java/lang/IllegalArgumentException" "java/lang/IllegalArgumentException" ∈ AW := aw_of (i := 415) (by decide +kernel) rfl
theorem aw_422 : Cond.selects "java/lang/IllegalArgumentException" ⟨"java/lang/Throwable", "fillInStackTrace", "(I)Ljava/lang/Throwable;"⟩ ⟨"java/lang/Throwable", "fillInStackTrace", "(I)Ljava/lang/Throwable;"⟩ ∈ AW := aw_of (i := 422) (by decide +kernel) rfl
theorem aw_423 : Cond.selects "java/lang/IllegalArgumentException" ⟨"java/lang/Throwable", "fillInStackTrace", "()Ljava/lang/Throwable;"⟩ ⟨"java/lang/Throwable", "fillInStackTrace", "()Ljava/lang/Throwable;"⟩ ∈ AW := aw_of (i := 423) (by decide +kernel) rfl
theorem aw_434 : Cond.fieldLink "java/lang/Throwable" 198 "java/lang/Throwable" "backtrace" "Ljava/lang/Object;" ∈ AW := aw_of (i := 434) (by decide +kernel) rfl
theorem aw_436 : Cond.instanceMethod ⟨"java/lang/Throwable", "<init>", "()V"⟩ ∈ AW := aw_of (i := 436) (by decide +kernel) rfl
theorem aw_437 : Cond.code ⟨"java/lang/Throwable", "<init>", "()V"⟩ prog_22_method_1_code 1 (none : Option Jvm.ClassFile.FieldType) ∈ AW := aw_of (i := 437) (by decide +kernel) rfl
theorem aw_438 : Cond.methodLink "java/lang/Throwable" 1 ⟨"java/lang/Object", "<init>", "()V"⟩ ∈ AW := aw_of (i := 438) (by decide +kernel) rfl
theorem aw_439 : Cond.fieldLink "java/lang/Throwable" 13 "java/lang/Throwable" "UNASSIGNED_STACK" "[Ljava/lang/StackTraceElement;" ∈ AW := aw_of (i := 439) (by decide +kernel) rfl
theorem aw_441 : Cond.fieldLink "java/lang/Throwable" 20 "java/lang/Throwable" "SUPPRESSED_SENTINEL" "Ljava/util/List;" ∈ AW := aw_of (i := 441) (by decide +kernel) rfl
theorem aw_443 : Cond.methodLink "java/lang/Throwable" 27 ⟨"java/lang/Throwable", "fillInStackTrace", "()Ljava/lang/Throwable;"⟩ ∈ AW := aw_of (i := 443) (by decide +kernel) rfl
theorem aw_444 : Cond.instanceMethod ⟨"java/lang/Throwable", "fillInStackTrace", "()Ljava/lang/Throwable;"⟩ ∈ AW := aw_of (i := 444) (by decide +kernel) rfl
theorem aw_446 : Cond.selects "java/lang/IllegalStateException" ⟨"java/lang/Throwable", "fillInStackTrace", "()Ljava/lang/Throwable;"⟩ ⟨"java/lang/Throwable", "fillInStackTrace", "()Ljava/lang/Throwable;"⟩ ∈ AW := aw_of (i := 446) (by decide +kernel) rfl
theorem aw_447 : Cond.selects "java/lang/IndexOutOfBoundsException" ⟨"java/lang/Throwable", "fillInStackTrace", "()Ljava/lang/Throwable;"⟩ ⟨"java/lang/Throwable", "fillInStackTrace", "()Ljava/lang/Throwable;"⟩ ∈ AW := aw_of (i := 447) (by decide +kernel) rfl
theorem aw_449 : Cond.methodLink "java/lang/Throwable" 202 ⟨"java/lang/Throwable", "fillInStackTrace", "(I)Ljava/lang/Throwable;"⟩ ∈ AW := aw_of (i := 449) (by decide +kernel) rfl
theorem aw_451 : Cond.instanceMethod ⟨"java/lang/Throwable", "fillInStackTrace", "(I)Ljava/lang/Throwable;"⟩ ∈ AW := aw_of (i := 451) (by decide +kernel) rfl
theorem aw_452 : Cond.instantiable "java/lang/Throwable" 6 ∈ AW := aw_of (i := 452) (by decide +kernel) rfl
theorem aw_453 : Cond.native ⟨"java/lang/Throwable", "fillInStackTrace", "(I)Ljava/lang/Throwable;"⟩ ∈ AW := aw_of (i := 453) (by decide +kernel) rfl
theorem aw_455 : Cond.methodLink "RejudgeHall" 299 ⟨"java/lang/IllegalArgumentException", "<init>", "(Ljava/lang/String;)V"⟩ ∈ AW := aw_of (i := 455) (by decide +kernel) rfl
theorem aw_456 : Cond.instanceMethod ⟨"java/lang/IllegalArgumentException", "<init>", "(Ljava/lang/String;)V"⟩ ∈ AW := aw_of (i := 456) (by decide +kernel) rfl
theorem aw_457 : Cond.code ⟨"java/lang/IllegalArgumentException", "<init>", "(Ljava/lang/String;)V"⟩ prog_14_method_2_code 2 (none : Option Jvm.ClassFile.FieldType) ∈ AW := aw_of (i := 457) (by decide +kernel) rfl
theorem aw_458 : Cond.methodLink "java/lang/IllegalArgumentException" 7 ⟨"java/lang/RuntimeException", "<init>", "(Ljava/lang/String;)V"⟩ ∈ AW := aw_of (i := 458) (by decide +kernel) rfl
theorem aw_459 : Cond.instanceMethod ⟨"java/lang/RuntimeException", "<init>", "(Ljava/lang/String;)V"⟩ ∈ AW := aw_of (i := 459) (by decide +kernel) rfl
theorem aw_460 : Cond.code ⟨"java/lang/RuntimeException", "<init>", "(Ljava/lang/String;)V"⟩ prog_19_method_2_code 2 (none : Option Jvm.ClassFile.FieldType) ∈ AW := aw_of (i := 460) (by decide +kernel) rfl
theorem aw_461 : Cond.methodLink "java/lang/RuntimeException" 7 ⟨"java/lang/Exception", "<init>", "(Ljava/lang/String;)V"⟩ ∈ AW := aw_of (i := 461) (by decide +kernel) rfl
theorem aw_462 : Cond.instanceMethod ⟨"java/lang/Exception", "<init>", "(Ljava/lang/String;)V"⟩ ∈ AW := aw_of (i := 462) (by decide +kernel) rfl
theorem aw_463 : Cond.code ⟨"java/lang/Exception", "<init>", "(Ljava/lang/String;)V"⟩ prog_13_method_2_code 2 (none : Option Jvm.ClassFile.FieldType) ∈ AW := aw_of (i := 463) (by decide +kernel) rfl
theorem aw_464 : Cond.methodLink "java/lang/Exception" 7 ⟨"java/lang/Throwable", "<init>", "(Ljava/lang/String;)V"⟩ ∈ AW := aw_of (i := 464) (by decide +kernel) rfl
theorem aw_465 : Cond.instanceMethod ⟨"java/lang/Throwable", "<init>", "(Ljava/lang/String;)V"⟩ ∈ AW := aw_of (i := 465) (by decide +kernel) rfl
theorem aw_466 : Cond.code ⟨"java/lang/Throwable", "<init>", "(Ljava/lang/String;)V"⟩ prog_22_method_2_code 2 (none : Option Jvm.ClassFile.FieldType) ∈ AW := aw_of (i := 466) (by decide +kernel) rfl
theorem aw_467 : Cond.fieldLink "java/lang/Throwable" 198 "java/lang/Throwable" "backtrace" "Ljava/lang/Object;" ∈ AW := aw_of (i := 467) (by decide +kernel) rfl
theorem aw_468 : Cond.fieldLink "java/lang/Throwable" 31 "java/lang/Throwable" "detailMessage" "Ljava/lang/String;" ∈ AW := aw_of (i := 468) (by decide +kernel) rfl
theorem aw_469 : Cond.fieldLink "java/lang/Throwable" 7 "java/lang/Throwable" "cause" "Ljava/lang/Throwable;" ∈ AW := aw_of (i := 469) (by decide +kernel) rfl
theorem aw_470 : Cond.fieldLink "java/lang/Throwable" 17 "java/lang/Throwable" "stackTrace" "[Ljava/lang/StackTraceElement;" ∈ AW := aw_of (i := 470) (by decide +kernel) rfl
theorem aw_471 : Cond.fieldLink "java/lang/Throwable" 24 "java/lang/Throwable" "suppressedExceptions" "Ljava/util/List;" ∈ AW := aw_of (i := 471) (by decide +kernel) rfl
theorem aw_480 : Cond.arrayClass .byte ∈ AW := aw_of (i := 480) (by decide +kernel) rfl
theorem aw_481 : Cond.classLink "RejudgeHall" 75 "java/lang/IllegalStateException" ∈ AW := aw_of (i := 481) (by decide +kernel) rfl
theorem aw_482 : Cond.instantiable "java/lang/IllegalStateException" 6 ∈ AW := aw_of (i := 482) (by decide +kernel) rfl
theorem aw_483 : Cond.castable "java/lang/IllegalStateException" "java/lang/IllegalStateException" ∈ AW := aw_of (i := 483) (by decide +kernel) rfl
theorem aw_484 : Cond.selects "java/lang/IllegalStateException" ⟨"java/lang/Throwable", "fillInStackTrace", "(I)Ljava/lang/Throwable;"⟩ ⟨"java/lang/Throwable", "fillInStackTrace", "(I)Ljava/lang/Throwable;"⟩ ∈ AW := aw_of (i := 484) (by decide +kernel) rfl
theorem aw_491 : Cond.methodLink "RejudgeHall" 79 ⟨"java/lang/IllegalStateException", "<init>", "(Ljava/lang/String;)V"⟩ ∈ AW := aw_of (i := 491) (by decide +kernel) rfl
theorem aw_492 : Cond.instanceMethod ⟨"java/lang/IllegalStateException", "<init>", "(Ljava/lang/String;)V"⟩ ∈ AW := aw_of (i := 492) (by decide +kernel) rfl
theorem aw_493 : Cond.code ⟨"java/lang/IllegalStateException", "<init>", "(Ljava/lang/String;)V"⟩ prog_15_method_2_code 2 (none : Option Jvm.ClassFile.FieldType) ∈ AW := aw_of (i := 493) (by decide +kernel) rfl
theorem aw_494 : Cond.methodLink "java/lang/IllegalStateException" 7 ⟨"java/lang/RuntimeException", "<init>", "(Ljava/lang/String;)V"⟩ ∈ AW := aw_of (i := 494) (by decide +kernel) rfl
theorem aw_497 : Cond.methodLinkNest "RejudgeHall" 82 yX3_append "RejudgeHall" ∈ AW := aw_of (i := 497) (by decide +kernel) rfl
theorem aw_499 : Cond.instanceMethod yX3_append ∈ AW := aw_of (i := 499) (by decide +kernel) rfl
theorem aw_500 : Cond.code yX3_append prog_5_method_2_code 3 (none : Option Jvm.ClassFile.FieldType) ∈ AW := aw_of (i := 500) (by decide +kernel) rfl
theorem aw_501 : Cond.methodLink "RejudgeHallLaw" 86 yL_input ∈ AW := aw_of (i := 501) (by decide +kernel) rfl
theorem aw_502 : Cond.static yL_input ∈ AW := aw_of (i := 502) (by decide +kernel) rfl
theorem aw_503 : Cond.codeWith yL_input method_4_code 4 (some .int) [(0, 9, 12, 13), (0, 9, 15, 15)] ∈ AW := aw_of (i := 503) (by decide +kernel) rfl
theorem aw_504 : Cond.methodLink "RejudgeHallLaw" 17 yX7_input ∈ AW := aw_of (i := 504) (by decide +kernel) rfl
theorem aw_505 : Cond.instanceMethod yX7_input ∈ AW := aw_of (i := 505) (by decide +kernel) rfl
theorem aw_506 : Cond.selects "RejudgeHall" yX7_input yX7_input ∈ AW := aw_of (i := 506) (by decide +kernel) rfl
theorem aw_507 : Cond.code yX7_input prog_1_method_3_code 2 (some .int) ∈ AW := aw_of (i := 507) (by decide +kernel) rfl
theorem aw_509 : Cond.methodLinkNest "RejudgeHall" 89 yX4_push "RejudgeHall" ∈ AW := aw_of (i := 509) (by decide +kernel) rfl
theorem aw_510 : Cond.methodLink "RejudgeHallLaw" 94 yL_run ∈ AW := aw_of (i := 510) (by decide +kernel) rfl
theorem aw_511 : Cond.static yL_run ∈ AW := aw_of (i := 511) (by decide +kernel) rfl
theorem aw_512 : Cond.codeWith yL_run method_5_code 5 (some .int) [(0, 10, 13, 13)] ∈ AW := aw_of (i := 512) (by decide +kernel) rfl
theorem aw_513 : Cond.methodLink "RejudgeHallLaw" 21 yX7_run ∈ AW := aw_of (i := 513) (by decide +kernel) rfl
theorem aw_514 : Cond.instanceMethod yX7_run ∈ AW := aw_of (i := 514) (by decide +kernel) rfl
theorem aw_515 : Cond.selects "RejudgeHall" yX7_run yX7_run ∈ AW := aw_of (i := 515) (by decide +kernel) rfl
theorem aw_516 : Cond.code yX7_run prog_1_method_5_code 4 (some .int) ∈ AW := aw_of (i := 516) (by decide +kernel) rfl
theorem aw_517 : Cond.methodLinkNest "RejudgeHall" 103 yX4_at "RejudgeHall" ∈ AW := aw_of (i := 517) (by decide +kernel) rfl
theorem aw_518 : Cond.methodLink "RejudgeHallLaw" 97 yL_problem ∈ AW := aw_of (i := 518) (by decide +kernel) rfl
theorem aw_519 : Cond.static yL_problem ∈ AW := aw_of (i := 519) (by decide +kernel) rfl
theorem aw_520 : Cond.codeWith yL_problem method_6_code 5 (some .int) [(0, 10, 13, 13), (0, 10, 17, 15)] ∈ AW := aw_of (i := 520) (by decide +kernel) rfl
theorem aw_521 : Cond.methodLink "RejudgeHallLaw" 24 yX7_problem ∈ AW := aw_of (i := 521) (by decide +kernel) rfl
theorem aw_522 : Cond.instanceMethod yX7_problem ∈ AW := aw_of (i := 522) (by decide +kernel) rfl
theorem aw_523 : Cond.selects "RejudgeHall" yX7_problem yX7_problem ∈ AW := aw_of (i := 523) (by decide +kernel) rfl
theorem aw_524 : Cond.code yX7_problem prog_1_method_6_code 4 (some .int) ∈ AW := aw_of (i := 524) (by decide +kernel) rfl
theorem aw_526 : Cond.classLink "RejudgeHall" 113 "RejudgeHall$Problem" ∈ AW := aw_of (i := 526) (by decide +kernel) rfl
theorem aw_527 : Cond.methodLinkNest "RejudgeHall" 115 yX2_init "RejudgeHall" ∈ AW := aw_of (i := 527) (by decide +kernel) rfl
theorem aw_528 : Cond.instanceMethod yX2_init ∈ AW := aw_of (i := 528) (by decide +kernel) rfl
theorem aw_529 : Cond.code yX2_init prog_4_method_1_code 4 (none : Option Jvm.ClassFile.FieldType) ∈ AW := aw_of (i := 529) (by decide +kernel) rfl
theorem aw_530 : Cond.methodLink "RejudgeHall$Problem" 3 ⟨"java/lang/Object", "<init>", "()V"⟩ ∈ AW := aw_of (i := 530) (by decide +kernel) rfl
theorem aw_531 : Cond.classLink "RejudgeHall$Problem" 9 "RejudgeHall$Program" ∈ AW := aw_of (i := 531) (by decide +kernel) rfl
theorem aw_532 : Cond.methodLinkNest "RejudgeHall$Problem" 11 yX3_init "RejudgeHall" ∈ AW := aw_of (i := 532) (by decide +kernel) rfl
theorem aw_533 : Cond.classLink "RejudgeHall$Problem" 18 "java/util/ArrayList" ∈ AW := aw_of (i := 533) (by decide +kernel) rfl
theorem aw_534 : Cond.methodLink "RejudgeHall$Problem" 20 yJx4a65c_init_da8c8 ∈ AW := aw_of (i := 534) (by decide +kernel) rfl
theorem aw_535 : Cond.methodLink "RejudgeHall$Problem" 42 yJ7_fill_53178 ∈ AW := aw_of (i := 535) (by decide +kernel) rfl
theorem aw_536 : Cond.fieldLink "RejudgeHall$Problem" 33 "RejudgeHall$Problem" "number" "I" ∈ AW := aw_of (i := 536) (by decide +kernel) rfl
theorem aw_537 : Cond.fieldLinkNest "RejudgeHall$Standings" 44 "RejudgeHall$Problem" "number" "I" "RejudgeHall" ∈ AW := aw_of (i := 537) (by decide +kernel) rfl
theorem aw_538 : Cond.fieldLinkNest "RejudgeHall" 128 "RejudgeHall$Problem" "number" "I" "RejudgeHall" ∈ AW := aw_of (i := 538) (by decide +kernel) rfl
theorem aw_539 : Cond.fieldLink "RejudgeHall$Problem" 36 "RejudgeHall$Problem" "limit" "I" ∈ AW := aw_of (i := 539) (by decide +kernel) rfl
theorem aw_540 : Cond.fieldLinkNest "RejudgeHall" 309 "RejudgeHall$Problem" "limit" "I" "RejudgeHall" ∈ AW := aw_of (i := 540) (by decide +kernel) rfl
theorem aw_541 : Cond.fieldLink "RejudgeHall$Problem" 12 "RejudgeHall$Problem" "solution" "LRejudgeHall$Program;" ∈ AW := aw_of (i := 541) (by decide +kernel) rfl
theorem aw_542 : Cond.fieldLinkNest "RejudgeHall" 117 "RejudgeHall$Problem" "solution" "LRejudgeHall$Program;" "RejudgeHall" ∈ AW := aw_of (i := 542) (by decide +kernel) rfl
theorem aw_543 : Cond.fieldLink "RejudgeHall$Problem" 21 "RejudgeHall$Problem" "trials" "Ljava/util/ArrayList;" ∈ AW := aw_of (i := 543) (by decide +kernel) rfl
theorem aw_544 : Cond.fieldLinkNest "RejudgeHall" 138 "RejudgeHall$Problem" "trials" "Ljava/util/ArrayList;" "RejudgeHall" ∈ AW := aw_of (i := 544) (by decide +kernel) rfl
theorem aw_545 : Cond.fieldLink "RejudgeHall$Problem" 25 "RejudgeHall$Problem" "points" "[I" ∈ AW := aw_of (i := 545) (by decide +kernel) rfl
theorem aw_546 : Cond.fieldLinkNest "RejudgeHall" 158 "RejudgeHall$Problem" "points" "[I" "RejudgeHall" ∈ AW := aw_of (i := 546) (by decide +kernel) rfl
theorem aw_547 : Cond.fieldLink "RejudgeHall$Problem" 39 "RejudgeHall$Problem" "checker" "I" ∈ AW := aw_of (i := 547) (by decide +kernel) rfl
theorem aw_548 : Cond.fieldLinkNest "RejudgeHall" 171 "RejudgeHall$Problem" "checker" "I" "RejudgeHall" ∈ AW := aw_of (i := 548) (by decide +kernel) rfl
theorem aw_549 : Cond.fieldLink "RejudgeHall$Problem" 29 "RejudgeHall$Problem" "version" "I" ∈ AW := aw_of (i := 549) (by decide +kernel) rfl
theorem aw_550 : Cond.fieldLinkNest "RejudgeHall" 174 "RejudgeHall$Problem" "version" "I" "RejudgeHall" ∈ AW := aw_of (i := 550) (by decide +kernel) rfl
theorem aw_566 : Cond.methodLinkNest "RejudgeHall" 120 yX3_takeFrom "RejudgeHall" ∈ AW := aw_of (i := 566) (by decide +kernel) rfl
theorem aw_568 : Cond.instanceMethod yX3_takeFrom ∈ AW := aw_of (i := 568) (by decide +kernel) rfl
theorem aw_569 : Cond.code yX3_takeFrom prog_5_method_3_code 2 (none : Option Jvm.ClassFile.FieldType) ∈ AW := aw_of (i := 569) (by decide +kernel) rfl
theorem aw_570 : Cond.methodLink "RejudgeHall$Program" 22 ⟨"java/lang/System", "arraycopy", "(Ljava/lang/Object;ILjava/lang/Object;II)V"⟩ ∈ AW := aw_of (i := 570) (by decide +kernel) rfl
theorem aw_571 : Cond.static ⟨"java/lang/System", "arraycopy", "(Ljava/lang/Object;ILjava/lang/Object;II)V"⟩ ∈ AW := aw_of (i := 571) (by decide +kernel) rfl
theorem aw_572 : Cond.native ⟨"java/lang/System", "arraycopy", "(Ljava/lang/Object;ILjava/lang/Object;II)V"⟩ ∈ AW := aw_of (i := 572) (by decide +kernel) rfl
theorem aw_573 : Cond.methodLink "RejudgeHall" 124 yJx4a65c_add_9ea2d ∈ AW := aw_of (i := 573) (by decide +kernel) rfl
theorem aw_574 : Cond.instanceMethod yJx4a65c_add_9ea2d ∈ AW := aw_of (i := 574) (by decide +kernel) rfl
theorem aw_575 : Cond.selects "java/util/ArrayList" yJx4a65c_add_9ea2d yJx4a65c_add_9ea2d ∈ AW := aw_of (i := 575) (by decide +kernel) rfl
theorem aw_576 : Cond.code yJx4a65c_add_9ea2d prog_25_method_25_code 2 (some .boolean) ∈ AW := aw_of (i := 576) (by decide +kernel) rfl
theorem aw_577 : Cond.methodLink "java/util/ArrayList" 131 yJx4a65c_add_72be8 ∈ AW := aw_of (i := 577) (by decide +kernel) rfl
theorem aw_579 : Cond.instanceMethod yJx4a65c_add_72be8 ∈ AW := aw_of (i := 579) (by decide +kernel) rfl
theorem aw_580 : Cond.code yJx4a65c_add_72be8 prog_25_method_24_code 4 (none : Option Jvm.ClassFile.FieldType) ∈ AW := aw_of (i := 580) (by decide +kernel) rfl
theorem aw_581 : Cond.methodLink "java/util/ArrayList" 129 yJx4a65c_grow_d5877 ∈ AW := aw_of (i := 581) (by decide +kernel) rfl
theorem aw_583 : Cond.instanceMethod yJx4a65c_grow_d5877 ∈ AW := aw_of (i := 583) (by decide +kernel) rfl
theorem aw_584 : Cond.code yJx4a65c_grow_d5877 prog_25_method_7_code 1 (some (.array (.object "java/lang/Object"))) ∈ AW := aw_of (i := 584) (by decide +kernel) rfl
theorem aw_585 : Cond.methodLink "java/util/ArrayList" 69 yJx4a65c_grow_92f84 ∈ AW := aw_of (i := 585) (by decide +kernel) rfl
theorem aw_587 : Cond.instanceMethod yJx4a65c_grow_92f84 ∈ AW := aw_of (i := 587) (by decide +kernel) rfl
theorem aw_588 : Cond.code yJx4a65c_grow_92f84 prog_25_method_6_code 4 (some (.array (.object "java/lang/Object"))) ∈ AW := aw_of (i := 588) (by decide +kernel) rfl
theorem aw_589 : Cond.methodLink "java/util/ArrayList" 73 yJ8_newLength_cabcc ∈ AW := aw_of (i := 589) (by decide +kernel) rfl
theorem aw_590 : Cond.static yJ8_newLength_cabcc ∈ AW := aw_of (i := 590) (by decide +kernel) rfl
theorem aw_591 : Cond.code yJ8_newLength_cabcc prog_32_method_27_code 4 (some .int) ∈ AW := aw_of (i := 591) (by decide +kernel) rfl
theorem aw_592 : Cond.methodLink "jdk/internal/util/ArraysSupport" 194 yJ9_max_7cf53 ∈ AW := aw_of (i := 592) (by decide +kernel) rfl
theorem aw_593 : Cond.constant "jdk/internal/util/ArraysSupport" 200 (2147483639 : Int32) ∈ AW := aw_of (i := 593) (by decide +kernel) rfl
theorem aw_594 : Cond.methodLink "jdk/internal/util/ArraysSupport" 201 yJ8_hugeLength_7cf53 ∈ AW := aw_of (i := 594) (by decide +kernel) rfl
theorem aw_595 : Cond.static yJ8_hugeLength_7cf53 ∈ AW := aw_of (i := 595) (by decide +kernel) rfl
theorem aw_596 : Cond.code yJ8_hugeLength_7cf53 prog_32_method_28_code 3 (some .int) ∈ AW := aw_of (i := 596) (by decide +kernel) rfl
theorem aw_597 : Cond.methodLink "java/util/ArrayList" 66 yJ7_copyOf_1904c ∈ AW := aw_of (i := 597) (by decide +kernel) rfl
theorem aw_598 : Cond.static yJ7_copyOf_1904c ∈ AW := aw_of (i := 598) (by decide +kernel) rfl
theorem aw_599 : Cond.code yJ7_copyOf_1904c prog_26_method_119_code 2 (some (.array (.object "java/lang/Object"))) ∈ AW := aw_of (i := 599) (by decide +kernel) rfl
theorem aw_600 : Cond.methodLink "java/util/Arrays" 86 ⟨"java/lang/Object", "getClass", "()Ljava/lang/Class;"⟩ ∈ AW := aw_of (i := 600) (by decide +kernel) rfl
theorem aw_601 : Cond.instanceMethod ⟨"java/lang/Object", "getClass", "()Ljava/lang/Class;"⟩ ∈ AW := aw_of (i := 601) (by decide +kernel) rfl
theorem aw_603 : Cond.selects "RejudgeHall" ⟨"java/lang/Object", "getClass", "()Ljava/lang/Class;"⟩ ⟨"java/lang/Object", "getClass", "()Ljava/lang/Class;"⟩ ∈ AW := aw_of (i := 603) (by decide +kernel) rfl
theorem aw_604 : Cond.selects "RejudgeHall$Entry" ⟨"java/lang/Object", "getClass", "()Ljava/lang/Class;"⟩ ⟨"java/lang/Object", "getClass", "()Ljava/lang/Class;"⟩ ∈ AW := aw_of (i := 604) (by decide +kernel) rfl
theorem aw_605 : Cond.selects "RejudgeHall$Machine" ⟨"java/lang/Object", "getClass", "()Ljava/lang/Class;"⟩ ⟨"java/lang/Object", "getClass", "()Ljava/lang/Class;"⟩ ∈ AW := aw_of (i := 605) (by decide +kernel) rfl
theorem aw_606 : Cond.selects "RejudgeHall$Problem" ⟨"java/lang/Object", "getClass", "()Ljava/lang/Class;"⟩ ⟨"java/lang/Object", "getClass", "()Ljava/lang/Class;"⟩ ∈ AW := aw_of (i := 606) (by decide +kernel) rfl
theorem aw_607 : Cond.selects "RejudgeHall$Program" ⟨"java/lang/Object", "getClass", "()Ljava/lang/Class;"⟩ ⟨"java/lang/Object", "getClass", "()Ljava/lang/Class;"⟩ ∈ AW := aw_of (i := 607) (by decide +kernel) rfl
theorem aw_608 : Cond.selects "RejudgeHall$Row" ⟨"java/lang/Object", "getClass", "()Ljava/lang/Class;"⟩ ⟨"java/lang/Object", "getClass", "()Ljava/lang/Class;"⟩ ∈ AW := aw_of (i := 608) (by decide +kernel) rfl
theorem aw_609 : Cond.selects "RejudgeHall$Standings" ⟨"java/lang/Object", "getClass", "()Ljava/lang/Class;"⟩ ⟨"java/lang/Object", "getClass", "()Ljava/lang/Class;"⟩ ∈ AW := aw_of (i := 609) (by decide +kernel) rfl
theorem aw_610 : Cond.selects "RejudgeHall$Trial" ⟨"java/lang/Object", "getClass", "()Ljava/lang/Class;"⟩ ⟨"java/lang/Object", "getClass", "()Ljava/lang/Class;"⟩ ∈ AW := aw_of (i := 610) (by decide +kernel) rfl
theorem aw_611 : Cond.selects "RejudgeHallModel" ⟨"java/lang/Object", "getClass", "()Ljava/lang/Class;"⟩ ⟨"java/lang/Object", "getClass", "()Ljava/lang/Class;"⟩ ∈ AW := aw_of (i := 611) (by decide +kernel) rfl
theorem aw_612 : Cond.selects "java/lang/IllegalArgumentException" ⟨"java/lang/Object", "getClass", "()Ljava/lang/Class;"⟩ ⟨"java/lang/Object", "getClass", "()Ljava/lang/Class;"⟩ ∈ AW := aw_of (i := 612) (by decide +kernel) rfl
theorem aw_613 : Cond.selects "java/lang/IllegalStateException" ⟨"java/lang/Object", "getClass", "()Ljava/lang/Class;"⟩ ⟨"java/lang/Object", "getClass", "()Ljava/lang/Class;"⟩ ∈ AW := aw_of (i := 613) (by decide +kernel) rfl
theorem aw_614 : Cond.selects "java/lang/IndexOutOfBoundsException" ⟨"java/lang/Object", "getClass", "()Ljava/lang/Class;"⟩ ⟨"java/lang/Object", "getClass", "()Ljava/lang/Class;"⟩ ∈ AW := aw_of (i := 614) (by decide +kernel) rfl
theorem aw_615 : Cond.selects "java/util/ArrayList" ⟨"java/lang/Object", "getClass", "()Ljava/lang/Class;"⟩ ⟨"java/lang/Object", "getClass", "()Ljava/lang/Class;"⟩ ∈ AW := aw_of (i := 615) (by decide +kernel) rfl
theorem aw_616 : Cond.native ⟨"java/lang/Object", "getClass", "()Ljava/lang/Class;"⟩ ∈ AW := aw_of (i := 616) (by decide +kernel) rfl
theorem aw_617 : Cond.methodLink "java/util/Arrays" 300 yJ7_copyOf_6403c ∈ AW := aw_of (i := 617) (by decide +kernel) rfl
theorem aw_618 : Cond.static yJ7_copyOf_6403c ∈ AW := aw_of (i := 618) (by decide +kernel) rfl
theorem aw_619 : Cond.code yJ7_copyOf_6403c prog_26_method_120_code 4 (some (.array (.object "java/lang/Object"))) ∈ AW := aw_of (i := 619) (by decide +kernel) rfl
theorem aw_620 : Cond.classLink "java/util/Arrays" 110 "[Ljava/lang/Object;" ∈ AW := aw_of (i := 620) (by decide +kernel) rfl
theorem aw_622 : Cond.classLink "java/util/Arrays" 2 "java/lang/Object" ∈ AW := aw_of (i := 622) (by decide +kernel) rfl
theorem aw_623 : Cond.methodLink "java/util/Arrays" 304 yJ9_min_7cf53 ∈ AW := aw_of (i := 623) (by decide +kernel) rfl
theorem aw_624 : Cond.methodLink "java/util/Arrays" 150 ⟨"java/lang/System", "arraycopy", "(Ljava/lang/Object;ILjava/lang/Object;II)V"⟩ ∈ AW := aw_of (i := 624) (by decide +kernel) rfl
theorem aw_625 : Cond.methodLink "java/util/ArrayList" 79 yJ9_max_7cf53 ∈ AW := aw_of (i := 625) (by decide +kernel) rfl
theorem aw_626 : Cond.classLink "java/util/ArrayList" 7 "java/lang/Object" ∈ AW := aw_of (i := 626) (by decide +kernel) rfl
theorem aw_627 : Cond.methodLink "RejudgeHallLaw" 100 yL_test ∈ AW := aw_of (i := 627) (by decide +kernel) rfl
theorem aw_628 : Cond.static yL_test ∈ AW := aw_of (i := 628) (by decide +kernel) rfl
theorem aw_629 : Cond.codeWith yL_test method_7_code 5 (some .int) [(0, 10, 13, 30), (0, 10, 17, 15)] ∈ AW := aw_of (i := 629) (by decide +kernel) rfl
theorem aw_630 : Cond.classLink "RejudgeHallLaw" 30 "java/lang/IndexOutOfBoundsException" ∈ AW := aw_of (i := 630) (by decide +kernel) rfl
theorem aw_631 : Cond.methodLink "RejudgeHallLaw" 27 yX7_test ∈ AW := aw_of (i := 631) (by decide +kernel) rfl
theorem aw_632 : Cond.instanceMethod yX7_test ∈ AW := aw_of (i := 632) (by decide +kernel) rfl
theorem aw_633 : Cond.selects "RejudgeHall" yX7_test yX7_test ∈ AW := aw_of (i := 633) (by decide +kernel) rfl
theorem aw_634 : Cond.code yX7_test prog_1_method_7_code 4 (some .int) ∈ AW := aw_of (i := 634) (by decide +kernel) rfl
theorem aw_635 : Cond.methodLink "RejudgeHall" 131 yX7_problemAt ∈ AW := aw_of (i := 635) (by decide +kernel) rfl
theorem aw_637 : Cond.instanceMethod yX7_problemAt ∈ AW := aw_of (i := 637) (by decide +kernel) rfl
theorem aw_638 : Cond.code yX7_problemAt prog_1_method_24_code 2 (some (.object "RejudgeHall$Problem")) ∈ AW := aw_of (i := 638) (by decide +kernel) rfl
theorem aw_639 : Cond.methodLink "RejudgeHall" 135 yX7_needIndex ∈ AW := aw_of (i := 639) (by decide +kernel) rfl
theorem aw_640 : Cond.static yX7_needIndex ∈ AW := aw_of (i := 640) (by decide +kernel) rfl
theorem aw_641 : Cond.code yX7_needIndex prog_1_method_23_code 2 (none : Option Jvm.ClassFile.FieldType) ∈ AW := aw_of (i := 641) (by decide +kernel) rfl
theorem aw_642 : Cond.classLink "RejudgeHall" 177 "java/lang/IndexOutOfBoundsException" ∈ AW := aw_of (i := 642) (by decide +kernel) rfl
theorem aw_643 : Cond.instantiable "java/lang/IndexOutOfBoundsException" 6 ∈ AW := aw_of (i := 643) (by decide +kernel) rfl
theorem aw_644 : Cond.castable "java/lang/IndexOutOfBoundsException" "java/lang/IndexOutOfBoundsException" ∈ AW := aw_of (i := 644) (by decide +kernel) rfl
theorem aw_645 : Cond.selects "java/lang/IndexOutOfBoundsException" ⟨"java/lang/Throwable", "fillInStackTrace", "(I)Ljava/lang/Throwable;"⟩ ⟨"java/lang/Throwable", "fillInStackTrace", "(I)Ljava/lang/Throwable;"⟩ ∈ AW := aw_of (i := 645) (by decide +kernel) rfl
theorem aw_652 : Cond.methodLink "RejudgeHall" 181 ⟨"java/lang/IndexOutOfBoundsException", "<init>", "(Ljava/lang/String;)V"⟩ ∈ AW := aw_of (i := 652) (by decide +kernel) rfl
theorem aw_653 : Cond.instanceMethod ⟨"java/lang/IndexOutOfBoundsException", "<init>", "(Ljava/lang/String;)V"⟩ ∈ AW := aw_of (i := 653) (by decide +kernel) rfl
theorem aw_654 : Cond.code ⟨"java/lang/IndexOutOfBoundsException", "<init>", "(Ljava/lang/String;)V"⟩ prog_16_method_2_code 2 (none : Option Jvm.ClassFile.FieldType) ∈ AW := aw_of (i := 654) (by decide +kernel) rfl
theorem aw_655 : Cond.methodLink "java/lang/IndexOutOfBoundsException" 7 ⟨"java/lang/RuntimeException", "<init>", "(Ljava/lang/String;)V"⟩ ∈ AW := aw_of (i := 655) (by decide +kernel) rfl
theorem aw_659 : Cond.methodLink "RejudgeHall" 143 yX7_findsAnswer ∈ AW := aw_of (i := 659) (by decide +kernel) rfl
theorem aw_661 : Cond.instanceMethod yX7_findsAnswer ∈ AW := aw_of (i := 661) (by decide +kernel) rfl
theorem aw_662 : Cond.code yX7_findsAnswer prog_1_method_26_code 3 (some .boolean) ∈ AW := aw_of (i := 662) (by decide +kernel) rfl
theorem aw_664 : Cond.instantiable "RejudgeHall$Trial" 3 ∈ AW := aw_of (i := 664) (by decide +kernel) rfl
theorem aw_665 : Cond.methodLinkNest "RejudgeHall" 151 yX6_init "RejudgeHall" ∈ AW := aw_of (i := 665) (by decide +kernel) rfl
theorem aw_666 : Cond.instanceMethod yX6_init ∈ AW := aw_of (i := 666) (by decide +kernel) rfl
theorem aw_667 : Cond.code yX6_init prog_8_method_1_code 4 (none : Option Jvm.ClassFile.FieldType) ∈ AW := aw_of (i := 667) (by decide +kernel) rfl
theorem aw_668 : Cond.methodLink "RejudgeHall$Trial" 1 ⟨"java/lang/Object", "<init>", "()V"⟩ ∈ AW := aw_of (i := 668) (by decide +kernel) rfl
theorem aw_669 : Cond.classLink "RejudgeHall$Trial" 7 "RejudgeHall$Row" ∈ AW := aw_of (i := 669) (by decide +kernel) rfl
theorem aw_670 : Cond.methodLinkNest "RejudgeHall$Trial" 9 yX4_init "RejudgeHall" ∈ AW := aw_of (i := 670) (by decide +kernel) rfl
theorem aw_671 : Cond.methodLinkNest "RejudgeHall$Trial" 19 yX4_copyFrom "RejudgeHall" ∈ AW := aw_of (i := 671) (by decide +kernel) rfl
theorem aw_673 : Cond.instanceMethod yX4_copyFrom ∈ AW := aw_of (i := 673) (by decide +kernel) rfl
theorem aw_674 : Cond.code yX4_copyFrom prog_6_method_6_code 2 (none : Option Jvm.ClassFile.FieldType) ∈ AW := aw_of (i := 674) (by decide +kernel) rfl
theorem aw_675 : Cond.methodLink "RejudgeHall$Row" 19 ⟨"java/lang/System", "arraycopy", "(Ljava/lang/Object;ILjava/lang/Object;II)V"⟩ ∈ AW := aw_of (i := 675) (by decide +kernel) rfl
theorem aw_676 : Cond.fieldLink "RejudgeHall$Trial" 10 "RejudgeHall$Trial" "input" "LRejudgeHall$Row;" ∈ AW := aw_of (i := 676) (by decide +kernel) rfl
theorem aw_677 : Cond.fieldLinkNest "RejudgeHall" 302 "RejudgeHall$Trial" "input" "LRejudgeHall$Row;" "RejudgeHall" ∈ AW := aw_of (i := 677) (by decide +kernel) rfl
theorem aw_678 : Cond.fieldLink "RejudgeHall$Trial" 16 "RejudgeHall$Trial" "answer" "LRejudgeHall$Row;" ∈ AW := aw_of (i := 678) (by decide +kernel) rfl
theorem aw_679 : Cond.fieldLinkNest "RejudgeHall" 186 "RejudgeHall$Trial" "answer" "LRejudgeHall$Row;" "RejudgeHall" ∈ AW := aw_of (i := 679) (by decide +kernel) rfl
theorem aw_680 : Cond.fieldLink "RejudgeHall$Trial" 23 "RejudgeHall$Trial" "group" "I" ∈ AW := aw_of (i := 680) (by decide +kernel) rfl
theorem aw_681 : Cond.fieldLinkNest "RejudgeHall" 316 "RejudgeHall$Trial" "group" "I" "RejudgeHall" ∈ AW := aw_of (i := 681) (by decide +kernel) rfl
theorem aw_689 : Cond.methodLinkNest "RejudgeHall" 154 yX2_addTrial "RejudgeHall" ∈ AW := aw_of (i := 689) (by decide +kernel) rfl
theorem aw_691 : Cond.instanceMethod yX2_addTrial ∈ AW := aw_of (i := 691) (by decide +kernel) rfl
theorem aw_692 : Cond.code yX2_addTrial prog_4_method_2_code 2 (none : Option Jvm.ClassFile.FieldType) ∈ AW := aw_of (i := 692) (by decide +kernel) rfl
theorem aw_693 : Cond.methodLink "RejudgeHall$Problem" 48 yJx4a65c_add_9ea2d ∈ AW := aw_of (i := 693) (by decide +kernel) rfl
theorem aw_694 : Cond.methodLink "RejudgeHallLaw" 103 yL_points ∈ AW := aw_of (i := 694) (by decide +kernel) rfl
theorem aw_695 : Cond.static yL_points ∈ AW := aw_of (i := 695) (by decide +kernel) rfl
theorem aw_696 : Cond.codeWith yL_points method_8_code 6 (some .int) [(0, 12, 15, 30), (0, 12, 19, 13)] ∈ AW := aw_of (i := 696) (by decide +kernel) rfl
theorem aw_697 : Cond.methodLink "RejudgeHallLaw" 32 yX7_points ∈ AW := aw_of (i := 697) (by decide +kernel) rfl
theorem aw_698 : Cond.instanceMethod yX7_points ∈ AW := aw_of (i := 698) (by decide +kernel) rfl
theorem aw_699 : Cond.selects "RejudgeHall" yX7_points yX7_points ∈ AW := aw_of (i := 699) (by decide +kernel) rfl
theorem aw_700 : Cond.code yX7_points prog_1_method_8_code 6 (some .int) ∈ AW := aw_of (i := 700) (by decide +kernel) rfl
theorem aw_701 : Cond.methodLink "RejudgeHallLaw" 107 yL_mend ∈ AW := aw_of (i := 701) (by decide +kernel) rfl
theorem aw_702 : Cond.static yL_mend ∈ AW := aw_of (i := 702) (by decide +kernel) rfl
theorem aw_703 : Cond.codeWith yL_mend method_9_code 5 (some .int) [(0, 10, 13, 30), (0, 10, 17, 13), (0, 10, 21, 15)] ∈ AW := aw_of (i := 703) (by decide +kernel) rfl
theorem aw_704 : Cond.methodLink "RejudgeHallLaw" 36 yX7_mend ∈ AW := aw_of (i := 704) (by decide +kernel) rfl
theorem aw_705 : Cond.instanceMethod yX7_mend ∈ AW := aw_of (i := 705) (by decide +kernel) rfl
theorem aw_706 : Cond.selects "RejudgeHall" yX7_mend yX7_mend ∈ AW := aw_of (i := 706) (by decide +kernel) rfl
theorem aw_707 : Cond.code yX7_mend prog_1_method_9_code 4 (some .int) ∈ AW := aw_of (i := 707) (by decide +kernel) rfl
theorem aw_708 : Cond.methodLink "RejudgeHall" 161 yX7_findsAllAnswers ∈ AW := aw_of (i := 708) (by decide +kernel) rfl
theorem aw_710 : Cond.instanceMethod yX7_findsAllAnswers ∈ AW := aw_of (i := 710) (by decide +kernel) rfl
theorem aw_711 : Cond.code yX7_findsAllAnswers prog_1_method_27_code 4 (some .boolean) ∈ AW := aw_of (i := 711) (by decide +kernel) rfl
theorem aw_713 : Cond.methodLink "RejudgeHall" 167 yX7_renewAnswers ∈ AW := aw_of (i := 713) (by decide +kernel) rfl
theorem aw_715 : Cond.instanceMethod yX7_renewAnswers ∈ AW := aw_of (i := 715) (by decide +kernel) rfl
theorem aw_716 : Cond.code yX7_renewAnswers prog_1_method_28_code 4 (none : Option Jvm.ClassFile.FieldType) ∈ AW := aw_of (i := 716) (by decide +kernel) rfl
theorem aw_717 : Cond.methodLinkNest "RejudgeHall" 305 yX4_copyFrom "RejudgeHall" ∈ AW := aw_of (i := 717) (by decide +kernel) rfl
theorem aw_718 : Cond.methodLink "RejudgeHallLaw" 110 yL_answer ∈ AW := aw_of (i := 718) (by decide +kernel) rfl
theorem aw_719 : Cond.static yL_answer ∈ AW := aw_of (i := 719) (by decide +kernel) rfl
theorem aw_720 : Cond.codeWith yL_answer method_10_code 6 (some .int) [(0, 12, 15, 30)] ∈ AW := aw_of (i := 720) (by decide +kernel) rfl
theorem aw_721 : Cond.methodLink "RejudgeHallLaw" 39 yX7_answer ∈ AW := aw_of (i := 721) (by decide +kernel) rfl
theorem aw_722 : Cond.instanceMethod yX7_answer ∈ AW := aw_of (i := 722) (by decide +kernel) rfl
theorem aw_723 : Cond.selects "RejudgeHall" yX7_answer yX7_answer ∈ AW := aw_of (i := 723) (by decide +kernel) rfl
theorem aw_724 : Cond.code yX7_answer prog_1_method_10_code 5 (some .int) ∈ AW := aw_of (i := 724) (by decide +kernel) rfl
theorem aw_726 : Cond.methodLink "RejudgeHallLaw" 113 yL_enter ∈ AW := aw_of (i := 726) (by decide +kernel) rfl
theorem aw_727 : Cond.static yL_enter ∈ AW := aw_of (i := 727) (by decide +kernel) rfl
theorem aw_728 : Cond.codeWith yL_enter method_11_code 5 (some .int) [(0, 10, 13, 30), (0, 10, 17, 15)] ∈ AW := aw_of (i := 728) (by decide +kernel) rfl
theorem aw_729 : Cond.methodLink "RejudgeHallLaw" 42 yX7_enter ∈ AW := aw_of (i := 729) (by decide +kernel) rfl
theorem aw_730 : Cond.instanceMethod yX7_enter ∈ AW := aw_of (i := 730) (by decide +kernel) rfl
theorem aw_731 : Cond.selects "RejudgeHall" yX7_enter yX7_enter ∈ AW := aw_of (i := 731) (by decide +kernel) rfl
theorem aw_732 : Cond.code yX7_enter prog_1_method_11_code 5 (some .int) ∈ AW := aw_of (i := 732) (by decide +kernel) rfl
theorem aw_734 : Cond.methodLinkNest "RejudgeHall" 193 yX0_init "RejudgeHall" ∈ AW := aw_of (i := 734) (by decide +kernel) rfl
theorem aw_735 : Cond.instanceMethod yX0_init ∈ AW := aw_of (i := 735) (by decide +kernel) rfl
theorem aw_736 : Cond.code yX0_init prog_2_method_1_code 4 (none : Option Jvm.ClassFile.FieldType) ∈ AW := aw_of (i := 736) (by decide +kernel) rfl
theorem aw_737 : Cond.methodLink "RejudgeHall$Entry" 3 ⟨"java/lang/Object", "<init>", "()V"⟩ ∈ AW := aw_of (i := 737) (by decide +kernel) rfl
theorem aw_738 : Cond.classLink "RejudgeHall$Entry" 9 "RejudgeHall$Program" ∈ AW := aw_of (i := 738) (by decide +kernel) rfl
theorem aw_739 : Cond.methodLinkNest "RejudgeHall$Entry" 11 yX3_init "RejudgeHall" ∈ AW := aw_of (i := 739) (by decide +kernel) rfl
theorem aw_740 : Cond.fieldLink "RejudgeHall$Entry" 31 "RejudgeHall$Entry" "team" "I" ∈ AW := aw_of (i := 740) (by decide +kernel) rfl
theorem aw_741 : Cond.fieldLinkNest "RejudgeHall$Standings" 34 "RejudgeHall$Entry" "team" "I" "RejudgeHall" ∈ AW := aw_of (i := 741) (by decide +kernel) rfl
theorem aw_742 : Cond.fieldLinkNest "RejudgeHall" 205 "RejudgeHall$Entry" "team" "I" "RejudgeHall" ∈ AW := aw_of (i := 742) (by decide +kernel) rfl
theorem aw_743 : Cond.fieldLink "RejudgeHall$Entry" 34 "RejudgeHall$Entry" "problem" "LRejudgeHall$Problem;" ∈ AW := aw_of (i := 743) (by decide +kernel) rfl
theorem aw_744 : Cond.fieldLinkNest "RejudgeHall$Standings" 40 "RejudgeHall$Entry" "problem" "LRejudgeHall$Problem;" "RejudgeHall" ∈ AW := aw_of (i := 744) (by decide +kernel) rfl
theorem aw_745 : Cond.fieldLinkNest "RejudgeHall" 212 "RejudgeHall$Entry" "problem" "LRejudgeHall$Problem;" "RejudgeHall" ∈ AW := aw_of (i := 745) (by decide +kernel) rfl
theorem aw_746 : Cond.fieldLink "RejudgeHall$Entry" 38 "RejudgeHall$Entry" "minute" "I" ∈ AW := aw_of (i := 746) (by decide +kernel) rfl
theorem aw_747 : Cond.fieldLinkNest "RejudgeHall$Standings" 53 "RejudgeHall$Entry" "minute" "I" "RejudgeHall" ∈ AW := aw_of (i := 747) (by decide +kernel) rfl
theorem aw_748 : Cond.fieldLinkNest "RejudgeHall" 233 "RejudgeHall$Entry" "minute" "I" "RejudgeHall" ∈ AW := aw_of (i := 748) (by decide +kernel) rfl
theorem aw_749 : Cond.fieldLink "RejudgeHall$Entry" 12 "RejudgeHall$Entry" "program" "LRejudgeHall$Program;" ∈ AW := aw_of (i := 749) (by decide +kernel) rfl
theorem aw_750 : Cond.fieldLinkNest "RejudgeHall" 196 "RejudgeHall$Entry" "program" "LRejudgeHall$Program;" "RejudgeHall" ∈ AW := aw_of (i := 750) (by decide +kernel) rfl
theorem aw_751 : Cond.fieldLink "RejudgeHall$Entry" 18 "RejudgeHall$Entry" "verdict" "I" ∈ AW := aw_of (i := 751) (by decide +kernel) rfl
theorem aw_752 : Cond.fieldLinkNest "RejudgeHall" 224 "RejudgeHall$Entry" "verdict" "I" "RejudgeHall" ∈ AW := aw_of (i := 752) (by decide +kernel) rfl
theorem aw_753 : Cond.fieldLink "RejudgeHall$Entry" 22 "RejudgeHall$Entry" "failedTest" "I" ∈ AW := aw_of (i := 753) (by decide +kernel) rfl
theorem aw_754 : Cond.fieldLinkNest "RejudgeHall" 227 "RejudgeHall$Entry" "failedTest" "I" "RejudgeHall" ∈ AW := aw_of (i := 754) (by decide +kernel) rfl
theorem aw_755 : Cond.fieldLink "RejudgeHall$Entry" 25 "RejudgeHall$Entry" "score" "I" ∈ AW := aw_of (i := 755) (by decide +kernel) rfl
theorem aw_756 : Cond.fieldLinkNest "RejudgeHall" 230 "RejudgeHall$Entry" "score" "I" "RejudgeHall" ∈ AW := aw_of (i := 756) (by decide +kernel) rfl
theorem aw_757 : Cond.fieldLink "RejudgeHall$Entry" 28 "RejudgeHall$Entry" "version" "I" ∈ AW := aw_of (i := 757) (by decide +kernel) rfl
theorem aw_758 : Cond.fieldLinkNest "RejudgeHall" 216 "RejudgeHall$Entry" "version" "I" "RejudgeHall" ∈ AW := aw_of (i := 758) (by decide +kernel) rfl
theorem aw_776 : Cond.methodLink "RejudgeHallLaw" 116 yL_pass ∈ AW := aw_of (i := 776) (by decide +kernel) rfl
theorem aw_777 : Cond.static yL_pass ∈ AW := aw_of (i := 777) (by decide +kernel) rfl
theorem aw_778 : Cond.codeWith yL_pass method_12_code 4 (some .int) [(0, 9, 12, 13), (0, 9, 15, 15)] ∈ AW := aw_of (i := 778) (by decide +kernel) rfl
theorem aw_779 : Cond.methodLink "RejudgeHallLaw" 45 yX7_pass ∈ AW := aw_of (i := 779) (by decide +kernel) rfl
theorem aw_780 : Cond.instanceMethod yX7_pass ∈ AW := aw_of (i := 780) (by decide +kernel) rfl
theorem aw_781 : Cond.selects "RejudgeHall" yX7_pass yX7_pass ∈ AW := aw_of (i := 781) (by decide +kernel) rfl
theorem aw_782 : Cond.code yX7_pass prog_1_method_12_code 2 (some .int) ∈ AW := aw_of (i := 782) (by decide +kernel) rfl
theorem aw_784 : Cond.methodLink "RejudgeHallLaw" 123 yL_rejudge ∈ AW := aw_of (i := 784) (by decide +kernel) rfl
theorem aw_785 : Cond.static yL_rejudge ∈ AW := aw_of (i := 785) (by decide +kernel) rfl
theorem aw_786 : Cond.codeWith yL_rejudge method_13_code 4 (some .int) [(0, 9, 12, 30)] ∈ AW := aw_of (i := 786) (by decide +kernel) rfl
theorem aw_787 : Cond.methodLink "RejudgeHallLaw" 48 yX7_rejudge ∈ AW := aw_of (i := 787) (by decide +kernel) rfl
theorem aw_788 : Cond.instanceMethod yX7_rejudge ∈ AW := aw_of (i := 788) (by decide +kernel) rfl
theorem aw_789 : Cond.selects "RejudgeHall" yX7_rejudge yX7_rejudge ∈ AW := aw_of (i := 789) (by decide +kernel) rfl
theorem aw_790 : Cond.code yX7_rejudge prog_1_method_14_code 6 (some .int) ∈ AW := aw_of (i := 790) (by decide +kernel) rfl
theorem aw_791 : Cond.methodLinkNest "RejudgeHall" 217 yX0_letWait "RejudgeHall" ∈ AW := aw_of (i := 791) (by decide +kernel) rfl
theorem aw_793 : Cond.instanceMethod yX0_letWait ∈ AW := aw_of (i := 793) (by decide +kernel) rfl
theorem aw_794 : Cond.code yX0_letWait prog_2_method_3_code 1 (none : Option Jvm.ClassFile.FieldType) ∈ AW := aw_of (i := 794) (by decide +kernel) rfl
theorem aw_795 : Cond.methodLink "RejudgeHallLaw" 126 yL_entry ∈ AW := aw_of (i := 795) (by decide +kernel) rfl
theorem aw_796 : Cond.static yL_entry ∈ AW := aw_of (i := 796) (by decide +kernel) rfl
theorem aw_797 : Cond.codeWith yL_entry method_14_code 5 (some .int) [(0, 10, 13, 30), (0, 10, 17, 13)] ∈ AW := aw_of (i := 797) (by decide +kernel) rfl
theorem aw_798 : Cond.methodLink "RejudgeHallLaw" 51 yX7_entry ∈ AW := aw_of (i := 798) (by decide +kernel) rfl
theorem aw_799 : Cond.instanceMethod yX7_entry ∈ AW := aw_of (i := 799) (by decide +kernel) rfl
theorem aw_800 : Cond.selects "RejudgeHall" yX7_entry yX7_entry ∈ AW := aw_of (i := 800) (by decide +kernel) rfl
theorem aw_801 : Cond.code yX7_entry prog_1_method_15_code 4 (some .int) ∈ AW := aw_of (i := 801) (by decide +kernel) rfl
theorem aw_802 : Cond.methodLink "RejudgeHall" 220 yX7_entryAt ∈ AW := aw_of (i := 802) (by decide +kernel) rfl
theorem aw_804 : Cond.instanceMethod yX7_entryAt ∈ AW := aw_of (i := 804) (by decide +kernel) rfl
theorem aw_805 : Cond.code yX7_entryAt prog_1_method_25_code 2 (some (.object "RejudgeHall$Entry")) ∈ AW := aw_of (i := 805) (by decide +kernel) rfl
theorem aw_806 : Cond.methodLink "RejudgeHallLaw" 129 yL_likeness ∈ AW := aw_of (i := 806) (by decide +kernel) rfl
theorem aw_807 : Cond.static yL_likeness ∈ AW := aw_of (i := 807) (by decide +kernel) rfl
theorem aw_808 : Cond.codeWith yL_likeness method_15_code 5 (some .int) [(0, 10, 13, 30)] ∈ AW := aw_of (i := 808) (by decide +kernel) rfl
theorem aw_809 : Cond.methodLink "RejudgeHallLaw" 54 yX7_likeness ∈ AW := aw_of (i := 809) (by decide +kernel) rfl
theorem aw_810 : Cond.instanceMethod yX7_likeness ∈ AW := aw_of (i := 810) (by decide +kernel) rfl
theorem aw_811 : Cond.selects "RejudgeHall" yX7_likeness yX7_likeness ∈ AW := aw_of (i := 811) (by decide +kernel) rfl
theorem aw_812 : Cond.code yX7_likeness prog_1_method_16_code 6 (some .int) ∈ AW := aw_of (i := 812) (by decide +kernel) rfl
theorem aw_813 : Cond.methodLink "RejudgeHall" 234 yJ9_max_7cf53 ∈ AW := aw_of (i := 813) (by decide +kernel) rfl
theorem aw_814 : Cond.methodLink "RejudgeHall" 240 yX7_longestCommon ∈ AW := aw_of (i := 814) (by decide +kernel) rfl
theorem aw_816 : Cond.instanceMethod yX7_longestCommon ∈ AW := aw_of (i := 816) (by decide +kernel) rfl
theorem aw_817 : Cond.code yX7_longestCommon prog_1_method_33_code 7 (some .int) ∈ AW := aw_of (i := 817) (by decide +kernel) rfl
theorem aw_818 : Cond.methodLink "RejudgeHall" 322 yJ7_fill_53178 ∈ AW := aw_of (i := 818) (by decide +kernel) rfl
theorem aw_819 : Cond.methodLinkNest "RejudgeHall" 328 yX3_isAlikeAt "RejudgeHall" ∈ AW := aw_of (i := 819) (by decide +kernel) rfl
theorem aw_821 : Cond.instanceMethod yX3_isAlikeAt ∈ AW := aw_of (i := 821) (by decide +kernel) rfl
theorem aw_822 : Cond.code yX3_isAlikeAt prog_5_method_5_code 5 (some .boolean) ∈ AW := aw_of (i := 822) (by decide +kernel) rfl
theorem aw_823 : Cond.methodLink "RejudgeHall$Program" 28 yX3_has ∈ AW := aw_of (i := 823) (by decide +kernel) rfl
theorem aw_824 : Cond.methodLink "RejudgeHallLaw" 132 yL_freeze ∈ AW := aw_of (i := 824) (by decide +kernel) rfl
theorem aw_825 : Cond.static yL_freeze ∈ AW := aw_of (i := 825) (by decide +kernel) rfl
theorem aw_826 : Cond.codeWith yL_freeze method_16_code 3 (some .int) [(0, 5, 8, 13)] ∈ AW := aw_of (i := 826) (by decide +kernel) rfl
theorem aw_827 : Cond.methodLink "RejudgeHallLaw" 57 yX7_freeze ∈ AW := aw_of (i := 827) (by decide +kernel) rfl
theorem aw_828 : Cond.instanceMethod yX7_freeze ∈ AW := aw_of (i := 828) (by decide +kernel) rfl
theorem aw_829 : Cond.selects "RejudgeHall" yX7_freeze yX7_freeze ∈ AW := aw_of (i := 829) (by decide +kernel) rfl
theorem aw_830 : Cond.code yX7_freeze prog_1_method_17_code 3 (none : Option Jvm.ClassFile.FieldType) ∈ AW := aw_of (i := 830) (by decide +kernel) rfl
theorem aw_831 : Cond.methodLink "RejudgeHallLaw" 140 yL_board ∈ AW := aw_of (i := 831) (by decide +kernel) rfl
theorem aw_832 : Cond.static yL_board ∈ AW := aw_of (i := 832) (by decide +kernel) rfl
theorem aw_833 : Cond.codeWith yL_board method_17_code 6 (some .int) [(0, 12, 15, 30), (0, 12, 19, 13)] ∈ AW := aw_of (i := 833) (by decide +kernel) rfl
theorem aw_834 : Cond.methodLink "RejudgeHallLaw" 61 yX7_board ∈ AW := aw_of (i := 834) (by decide +kernel) rfl
theorem aw_835 : Cond.instanceMethod yX7_board ∈ AW := aw_of (i := 835) (by decide +kernel) rfl
theorem aw_836 : Cond.selects "RejudgeHall" yX7_board yX7_board ∈ AW := aw_of (i := 836) (by decide +kernel) rfl
theorem aw_837 : Cond.code yX7_board prog_1_method_19_code 4 (some .int) ∈ AW := aw_of (i := 837) (by decide +kernel) rfl
theorem aw_838 : Cond.methodLinkNest "RejudgeHall" 258 yX5_placeOf "RejudgeHall" ∈ AW := aw_of (i := 838) (by decide +kernel) rfl
theorem aw_840 : Cond.instanceMethod yX5_placeOf ∈ AW := aw_of (i := 840) (by decide +kernel) rfl
theorem aw_841 : Cond.code yX5_placeOf prog_7_method_5_code 4 (some .int) ∈ AW := aw_of (i := 841) (by decide +kernel) rfl
theorem aw_842 : Cond.methodLink "RejudgeHall$Standings" 61 yX5_isAhead ∈ AW := aw_of (i := 842) (by decide +kernel) rfl
theorem aw_843 : Cond.methodLink "RejudgeHallLaw" 144 yL_placeAnew ∈ AW := aw_of (i := 843) (by decide +kernel) rfl
theorem aw_844 : Cond.static yL_placeAnew ∈ AW := aw_of (i := 844) (by decide +kernel) rfl
theorem aw_845 : Cond.codeWith yL_placeAnew method_18_code 4 (some .int) [(0, 9, 12, 30)] ∈ AW := aw_of (i := 845) (by decide +kernel) rfl
theorem aw_846 : Cond.methodLink "RejudgeHallLaw" 65 yX7_placeAnew ∈ AW := aw_of (i := 846) (by decide +kernel) rfl
theorem aw_847 : Cond.instanceMethod yX7_placeAnew ∈ AW := aw_of (i := 847) (by decide +kernel) rfl
theorem aw_848 : Cond.selects "RejudgeHall" yX7_placeAnew yX7_placeAnew ∈ AW := aw_of (i := 848) (by decide +kernel) rfl
theorem aw_849 : Cond.code yX7_placeAnew prog_1_method_20_code 4 (some .int) ∈ AW := aw_of (i := 849) (by decide +kernel) rfl
theorem aw_850 : Cond.methodLink "RejudgeHall" 273 yX7_passesAll ∈ AW := aw_of (i := 850) (by decide +kernel) rfl
theorem aw_852 : Cond.instanceMethod yX7_passesAll ∈ AW := aw_of (i := 852) (by decide +kernel) rfl
theorem aw_853 : Cond.code yX7_passesAll prog_1_method_30_code 4 (some .boolean) ∈ AW := aw_of (i := 853) (by decide +kernel) rfl
theorem aw_854 : Cond.methodLink "RejudgeHallLaw" 147 yL_hack ∈ AW := aw_of (i := 854) (by decide +kernel) rfl
theorem aw_855 : Cond.static yL_hack ∈ AW := aw_of (i := 855) (by decide +kernel) rfl
theorem aw_856 : Cond.codeWith yL_hack method_19_code 5 (some .int) [(0, 17, 20, 30), (0, 17, 24, 15)] ∈ AW := aw_of (i := 856) (by decide +kernel) rfl
theorem aw_857 : Cond.methodLink "RejudgeHallLaw" 68 yX7_hack ∈ AW := aw_of (i := 857) (by decide +kernel) rfl
theorem aw_858 : Cond.instanceMethod yX7_hack ∈ AW := aw_of (i := 858) (by decide +kernel) rfl
theorem aw_859 : Cond.selects "RejudgeHall" yX7_hack yX7_hack ∈ AW := aw_of (i := 859) (by decide +kernel) rfl
theorem aw_860 : Cond.code yX7_hack prog_1_method_21_code 6 (some .boolean) ∈ AW := aw_of (i := 860) (by decide +kernel) rfl
theorem aw_861 : Cond.methodLink "RejudgeHall" 281 yX7_hasSolved ∈ AW := aw_of (i := 861) (by decide +kernel) rfl
theorem aw_863 : Cond.instanceMethod yX7_hasSolved ∈ AW := aw_of (i := 863) (by decide +kernel) rfl
theorem aw_864 : Cond.code yX7_hasSolved prog_1_method_32_code 5 (some .boolean) ∈ AW := aw_of (i := 864) (by decide +kernel) rfl
theorem aw_868 : Cond.classLink "RejudgeHallLaw" 73 "RejudgeHallModel" ∈ AW := aw_of (i := 868) (by decide +kernel) rfl
theorem aw_869 : Cond.instantiable "RejudgeHallModel" 39 ∈ AW := aw_of (i := 869) (by decide +kernel) rfl
theorem aw_870 : Cond.methodLink "RejudgeHallLaw" 75 yX8_init ∈ AW := aw_of (i := 870) (by decide +kernel) rfl
theorem aw_871 : Cond.instanceMethod yX8_init ∈ AW := aw_of (i := 871) (by decide +kernel) rfl
theorem aw_872 : Cond.code yX8_init prog_10_method_1_code 2 (none : Option Jvm.ClassFile.FieldType) ∈ AW := aw_of (i := 872) (by decide +kernel) rfl
theorem aw_873 : Cond.methodLink "RejudgeHallModel" 1 ⟨"java/lang/Object", "<init>", "()V"⟩ ∈ AW := aw_of (i := 873) (by decide +kernel) rfl
theorem aw_874 : Cond.fieldLink "RejudgeHallModel" 186 "RejudgeHallModel" "minute" "I" ∈ AW := aw_of (i := 874) (by decide +kernel) rfl
theorem aw_875 : Cond.fieldLink "RejudgeHallModel" 7 "RejudgeHallModel" "size" "[I" ∈ AW := aw_of (i := 875) (by decide +kernel) rfl
theorem aw_876 : Cond.fieldLink "RejudgeHallModel" 13 "RejudgeHallModel" "sort" "[I" ∈ AW := aw_of (i := 876) (by decide +kernel) rfl
theorem aw_877 : Cond.fieldLink "RejudgeHallModel" 16 "RejudgeHallModel" "number" "[I" ∈ AW := aw_of (i := 877) (by decide +kernel) rfl
theorem aw_878 : Cond.fieldLink "RejudgeHallModel" 19 "RejudgeHallModel" "given" "[I" ∈ AW := aw_of (i := 878) (by decide +kernel) rfl
theorem aw_879 : Cond.fieldLink "RejudgeHallModel" 22 "RejudgeHallModel" "inputs" "[I" ∈ AW := aw_of (i := 879) (by decide +kernel) rfl
theorem aw_880 : Cond.fieldLink "RejudgeHallModel" 105 "RejudgeHallModel" "problems" "I" ∈ AW := aw_of (i := 880) (by decide +kernel) rfl
theorem aw_881 : Cond.fieldLink "RejudgeHallModel" 25 "RejudgeHallModel" "limit" "[I" ∈ AW := aw_of (i := 881) (by decide +kernel) rfl
theorem aw_882 : Cond.fieldLink "RejudgeHallModel" 28 "RejudgeHallModel" "checker" "[I" ∈ AW := aw_of (i := 882) (by decide +kernel) rfl
theorem aw_883 : Cond.fieldLink "RejudgeHallModel" 31 "RejudgeHallModel" "version" "[I" ∈ AW := aw_of (i := 883) (by decide +kernel) rfl
theorem aw_884 : Cond.fieldLink "RejudgeHallModel" 34 "RejudgeHallModel" "tests" "[I" ∈ AW := aw_of (i := 884) (by decide +kernel) rfl
theorem aw_885 : Cond.fieldLink "RejudgeHallModel" 37 "RejudgeHallModel" "groupOf" "[I" ∈ AW := aw_of (i := 885) (by decide +kernel) rfl
theorem aw_886 : Cond.fieldLink "RejudgeHallModel" 40 "RejudgeHallModel" "points" "[I" ∈ AW := aw_of (i := 886) (by decide +kernel) rfl
theorem aw_887 : Cond.fieldLink "RejudgeHallModel" 112 "RejudgeHallModel" "entries" "I" ∈ AW := aw_of (i := 887) (by decide +kernel) rfl
theorem aw_888 : Cond.fieldLink "RejudgeHallModel" 43 "RejudgeHallModel" "team" "[I" ∈ AW := aw_of (i := 888) (by decide +kernel) rfl
theorem aw_889 : Cond.fieldLink "RejudgeHallModel" 46 "RejudgeHallModel" "problemOf" "[I" ∈ AW := aw_of (i := 889) (by decide +kernel) rfl
theorem aw_890 : Cond.fieldLink "RejudgeHallModel" 49 "RejudgeHallModel" "when" "[I" ∈ AW := aw_of (i := 890) (by decide +kernel) rfl
theorem aw_891 : Cond.fieldLink "RejudgeHallModel" 52 "RejudgeHallModel" "verdict" "[I" ∈ AW := aw_of (i := 891) (by decide +kernel) rfl
theorem aw_892 : Cond.fieldLink "RejudgeHallModel" 55 "RejudgeHallModel" "failed" "[I" ∈ AW := aw_of (i := 892) (by decide +kernel) rfl
theorem aw_893 : Cond.fieldLink "RejudgeHallModel" 58 "RejudgeHallModel" "score" "[I" ∈ AW := aw_of (i := 893) (by decide +kernel) rfl
theorem aw_894 : Cond.fieldLink "RejudgeHallModel" 61 "RejudgeHallModel" "judgedBy" "[I" ∈ AW := aw_of (i := 894) (by decide +kernel) rfl
theorem aw_895 : Cond.fieldLink "RejudgeHallModel" 64 "RejudgeHallModel" "judgings" "[I" ∈ AW := aw_of (i := 895) (by decide +kernel) rfl
theorem aw_896 : Cond.fieldLink "RejudgeHallModel" 67 "RejudgeHallModel" "hacks" "[I" ∈ AW := aw_of (i := 896) (by decide +kernel) rfl
theorem aw_897 : Cond.fieldLink "RejudgeHallModel" 70 "RejudgeHallModel" "frozenFrom" "I" ∈ AW := aw_of (i := 897) (by decide +kernel) rfl
theorem aw_898 : Cond.fieldLink "RejudgeHallModel" 74 "RejudgeHallModel" "revealed" "[Z" ∈ AW := aw_of (i := 898) (by decide +kernel) rfl
theorem aw_899 : Cond.fieldLink "RejudgeHallModel" 117 "RejudgeHallModel" "fails" "I" ∈ AW := aw_of (i := 899) (by decide +kernel) rfl
theorem aw_900 : Cond.fieldLink "RejudgeHallModel" 123 "RejudgeHallModel" "steps" "I" ∈ AW := aw_of (i := 900) (by decide +kernel) rfl
theorem aw_901 : Cond.fieldLink "RejudgeHallModel" 126 "RejudgeHallModel" "printed" "I" ∈ AW := aw_of (i := 901) (by decide +kernel) rfl
theorem aw_902 : Cond.fieldLink "RejudgeHallModel" 78 "RejudgeHallModel" "output" "[I" ∈ AW := aw_of (i := 902) (by decide +kernel) rfl
theorem aw_903 : Cond.fieldLink "RejudgeHallModel" 81 "RejudgeHallModel" "stack" "[I" ∈ AW := aw_of (i := 903) (by decide +kernel) rfl
theorem aw_904 : Cond.fieldLink "RejudgeHallModel" 120 "RejudgeHallModel" "pushed" "I" ∈ AW := aw_of (i := 904) (by decide +kernel) rfl
theorem aw_905 : Cond.fieldLink "RejudgeHallModel" 152 "RejudgeHallModel" "answered" "I" ∈ AW := aw_of (i := 905) (by decide +kernel) rfl
theorem aw_906 : Cond.fieldLink "RejudgeHallModel" 84 "RejudgeHallModel" "answer" "[I" ∈ AW := aw_of (i := 906) (by decide +kernel) rfl
theorem aw_907 : Cond.fieldLink "RejudgeHallModel" 87 "RejudgeHallModel" "told" "[I" ∈ AW := aw_of (i := 907) (by decide +kernel) rfl
theorem aw_908 : Cond.fieldLink "RejudgeHallModel" 90 "RejudgeHallModel" "solved" "[I" ∈ AW := aw_of (i := 908) (by decide +kernel) rfl
theorem aw_909 : Cond.fieldLink "RejudgeHallModel" 93 "RejudgeHallModel" "sum" "[I" ∈ AW := aw_of (i := 909) (by decide +kernel) rfl
theorem aw_910 : Cond.fieldLink "RejudgeHallModel" 96 "RejudgeHallModel" "latest" "[I" ∈ AW := aw_of (i := 910) (by decide +kernel) rfl
theorem aw_911 : Cond.fieldLink "RejudgeHallModel" 99 "RejudgeHallModel" "row" "[I" ∈ AW := aw_of (i := 911) (by decide +kernel) rfl
theorem aw_912 : Cond.fieldLink "RejudgeHallModel" 102 "RejudgeHallModel" "thrown" "I" ∈ AW := aw_of (i := 912) (by decide +kernel) rfl
theorem aw_992 : Cond.methodLink "RejudgeHallLaw" 82 yX8_thrown ∈ AW := aw_of (i := 992) (by decide +kernel) rfl
theorem aw_993 : Cond.instanceMethod yX8_thrown ∈ AW := aw_of (i := 993) (by decide +kernel) rfl
theorem aw_994 : Cond.selects "RejudgeHallModel" yX8_thrown yX8_thrown ∈ AW := aw_of (i := 994) (by decide +kernel) rfl
theorem aw_995 : Cond.code yX8_thrown prog_10_method_2_code 1 (some .int) ∈ AW := aw_of (i := 995) (by decide +kernel) rfl
theorem aw_996 : Cond.methodLink "RejudgeHallLaw" 81 yX8_code ∈ AW := aw_of (i := 996) (by decide +kernel) rfl
theorem aw_997 : Cond.instanceMethod yX8_code ∈ AW := aw_of (i := 997) (by decide +kernel) rfl
theorem aw_998 : Cond.selects "RejudgeHallModel" yX8_code yX8_code ∈ AW := aw_of (i := 998) (by decide +kernel) rfl
theorem aw_999 : Cond.code yX8_code prog_10_method_14_code 3 (some .int) ∈ AW := aw_of (i := 999) (by decide +kernel) rfl
theorem aw_1000 : Cond.methodLink "RejudgeHallModel" 108 yX8_isIn ∈ AW := aw_of (i := 1000) (by decide +kernel) rfl
theorem aw_1001 : Cond.static yX8_isIn ∈ AW := aw_of (i := 1001) (by decide +kernel) rfl
theorem aw_1002 : Cond.code yX8_isIn prog_10_method_3_code 3 (some .boolean) ∈ AW := aw_of (i := 1002) (by decide +kernel) rfl
theorem aw_1003 : Cond.methodLink "RejudgeHallLaw" 89 yX8_input ∈ AW := aw_of (i := 1003) (by decide +kernel) rfl
theorem aw_1004 : Cond.instanceMethod yX8_input ∈ AW := aw_of (i := 1004) (by decide +kernel) rfl
theorem aw_1005 : Cond.selects "RejudgeHallModel" yX8_input yX8_input ∈ AW := aw_of (i := 1005) (by decide +kernel) rfl
theorem aw_1006 : Cond.code yX8_input prog_10_method_15_code 2 (some .int) ∈ AW := aw_of (i := 1006) (by decide +kernel) rfl
theorem aw_1007 : Cond.methodLink "RejudgeHallLaw" 93 yX8_clear ∈ AW := aw_of (i := 1007) (by decide +kernel) rfl
theorem aw_1008 : Cond.instanceMethod yX8_clear ∈ AW := aw_of (i := 1008) (by decide +kernel) rfl
theorem aw_1009 : Cond.selects "RejudgeHallModel" yX8_clear yX8_clear ∈ AW := aw_of (i := 1009) (by decide +kernel) rfl
theorem aw_1010 : Cond.code yX8_clear prog_10_method_16_code 2 (some .int) ∈ AW := aw_of (i := 1010) (by decide +kernel) rfl
theorem aw_1011 : Cond.methodLink "RejudgeHallModel" 145 yX8_empties ∈ AW := aw_of (i := 1011) (by decide +kernel) rfl
theorem aw_1013 : Cond.instanceMethod yX8_empties ∈ AW := aw_of (i := 1013) (by decide +kernel) rfl
theorem aw_1014 : Cond.code yX8_empties prog_10_method_12_code 2 (none : Option Jvm.ClassFile.FieldType) ∈ AW := aw_of (i := 1014) (by decide +kernel) rfl
theorem aw_1015 : Cond.methodLink "RejudgeHallLaw" 96 yX8_run ∈ AW := aw_of (i := 1015) (by decide +kernel) rfl
theorem aw_1016 : Cond.instanceMethod yX8_run ∈ AW := aw_of (i := 1016) (by decide +kernel) rfl
theorem aw_1017 : Cond.selects "RejudgeHallModel" yX8_run yX8_run ∈ AW := aw_of (i := 1017) (by decide +kernel) rfl
theorem aw_1018 : Cond.code yX8_run prog_10_method_17_code 3 (some .int) ∈ AW := aw_of (i := 1018) (by decide +kernel) rfl
theorem aw_1019 : Cond.methodLink "RejudgeHallModel" 148 yX8_runs ∈ AW := aw_of (i := 1019) (by decide +kernel) rfl
theorem aw_1021 : Cond.instanceMethod yX8_runs ∈ AW := aw_of (i := 1021) (by decide +kernel) rfl
theorem aw_1022 : Cond.code yX8_runs prog_10_method_10_code 10 (none : Option Jvm.ClassFile.FieldType) ∈ AW := aw_of (i := 1022) (by decide +kernel) rfl
theorem aw_1023 : Cond.methodLink "RejudgeHallModel" 129 yX8_needs ∈ AW := aw_of (i := 1023) (by decide +kernel) rfl
theorem aw_1024 : Cond.static yX8_needs ∈ AW := aw_of (i := 1024) (by decide +kernel) rfl
theorem aw_1025 : Cond.code yX8_needs prog_10_method_8_code 1 (some .int) ∈ AW := aw_of (i := 1025) (by decide +kernel) rfl
theorem aw_1026 : Cond.methodLink "RejudgeHallModel" 133 yX8_pushes ∈ AW := aw_of (i := 1026) (by decide +kernel) rfl
theorem aw_1028 : Cond.instanceMethod yX8_pushes ∈ AW := aw_of (i := 1028) (by decide +kernel) rfl
theorem aw_1029 : Cond.code yX8_pushes prog_10_method_9_code 2 (none : Option Jvm.ClassFile.FieldType) ∈ AW := aw_of (i := 1029) (by decide +kernel) rfl
theorem aw_1030 : Cond.constant "RejudgeHallModel" 115 (-999999 : Int32) ∈ AW := aw_of (i := 1030) (by decide +kernel) rfl
theorem aw_1031 : Cond.constant "RejudgeHallModel" 116 (999999 : Int32) ∈ AW := aw_of (i := 1031) (by decide +kernel) rfl
theorem aw_1032 : Cond.methodLink "RejudgeHallModel" 137 yX8_makes ∈ AW := aw_of (i := 1032) (by decide +kernel) rfl
theorem aw_1034 : Cond.instanceMethod yX8_makes ∈ AW := aw_of (i := 1034) (by decide +kernel) rfl
theorem aw_1035 : Cond.code yX8_makes prog_10_method_11_code 3 (none : Option Jvm.ClassFile.FieldType) ∈ AW := aw_of (i := 1035) (by decide +kernel) rfl
theorem aw_1036 : Cond.constantLong "RejudgeHallModel" 141 (999999 : Int64) ∈ AW := aw_of (i := 1036) (by decide +kernel) rfl
theorem aw_1037 : Cond.constantLong "RejudgeHallModel" 143 (-999999 : Int64) ∈ AW := aw_of (i := 1037) (by decide +kernel) rfl
theorem aw_1038 : Cond.methodLink "RejudgeHallLaw" 99 yX8_problem ∈ AW := aw_of (i := 1038) (by decide +kernel) rfl
theorem aw_1039 : Cond.instanceMethod yX8_problem ∈ AW := aw_of (i := 1039) (by decide +kernel) rfl
theorem aw_1040 : Cond.selects "RejudgeHallModel" yX8_problem yX8_problem ∈ AW := aw_of (i := 1040) (by decide +kernel) rfl
theorem aw_1041 : Cond.code yX8_problem prog_10_method_20_code 3 (some .int) ∈ AW := aw_of (i := 1041) (by decide +kernel) rfl
theorem aw_1042 : Cond.methodLink "RejudgeHallModel" 155 yX8_isChecker ∈ AW := aw_of (i := 1042) (by decide +kernel) rfl
theorem aw_1043 : Cond.static yX8_isChecker ∈ AW := aw_of (i := 1043) (by decide +kernel) rfl
theorem aw_1044 : Cond.code yX8_isChecker prog_10_method_19_code 1 (some .boolean) ∈ AW := aw_of (i := 1044) (by decide +kernel) rfl
theorem aw_1045 : Cond.methodLink "RejudgeHallModel" 159 yX8_copies ∈ AW := aw_of (i := 1045) (by decide +kernel) rfl
theorem aw_1047 : Cond.instanceMethod yX8_copies ∈ AW := aw_of (i := 1047) (by decide +kernel) rfl
theorem aw_1048 : Cond.code yX8_copies prog_10_method_13_code 4 (none : Option Jvm.ClassFile.FieldType) ∈ AW := aw_of (i := 1048) (by decide +kernel) rfl
theorem aw_1049 : Cond.methodLink "RejudgeHallLaw" 102 yX8_test ∈ AW := aw_of (i := 1049) (by decide +kernel) rfl
theorem aw_1050 : Cond.instanceMethod yX8_test ∈ AW := aw_of (i := 1050) (by decide +kernel) rfl
theorem aw_1051 : Cond.selects "RejudgeHallModel" yX8_test yX8_test ∈ AW := aw_of (i := 1051) (by decide +kernel) rfl
theorem aw_1052 : Cond.code yX8_test prog_10_method_22_code 3 (some .int) ∈ AW := aw_of (i := 1052) (by decide +kernel) rfl
theorem aw_1053 : Cond.methodLink "RejudgeHallModel" 163 yX8_isProblem ∈ AW := aw_of (i := 1053) (by decide +kernel) rfl
theorem aw_1055 : Cond.instanceMethod yX8_isProblem ∈ AW := aw_of (i := 1055) (by decide +kernel) rfl
theorem aw_1056 : Cond.code yX8_isProblem prog_10_method_4_code 2 (some .boolean) ∈ AW := aw_of (i := 1056) (by decide +kernel) rfl
theorem aw_1057 : Cond.methodLink "RejudgeHallModel" 166 yX8_isGroup ∈ AW := aw_of (i := 1057) (by decide +kernel) rfl
theorem aw_1058 : Cond.static yX8_isGroup ∈ AW := aw_of (i := 1058) (by decide +kernel) rfl
theorem aw_1059 : Cond.code yX8_isGroup prog_10_method_7_code 1 (some .boolean) ∈ AW := aw_of (i := 1059) (by decide +kernel) rfl
theorem aw_1060 : Cond.methodLink "RejudgeHallModel" 169 yX8_answers ∈ AW := aw_of (i := 1060) (by decide +kernel) rfl
theorem aw_1062 : Cond.instanceMethod yX8_answers ∈ AW := aw_of (i := 1062) (by decide +kernel) rfl
theorem aw_1063 : Cond.code yX8_answers prog_10_method_18_code 4 (some .boolean) ∈ AW := aw_of (i := 1063) (by decide +kernel) rfl
theorem aw_1064 : Cond.methodLink "RejudgeHallModel" 173 yX8_becomes ∈ AW := aw_of (i := 1064) (by decide +kernel) rfl
theorem aw_1066 : Cond.instanceMethod yX8_becomes ∈ AW := aw_of (i := 1066) (by decide +kernel) rfl
theorem aw_1067 : Cond.code yX8_becomes prog_10_method_21_code 5 (none : Option Jvm.ClassFile.FieldType) ∈ AW := aw_of (i := 1067) (by decide +kernel) rfl
theorem aw_1068 : Cond.methodLink "RejudgeHallLaw" 106 yX8_points ∈ AW := aw_of (i := 1068) (by decide +kernel) rfl
theorem aw_1069 : Cond.instanceMethod yX8_points ∈ AW := aw_of (i := 1069) (by decide +kernel) rfl
theorem aw_1070 : Cond.selects "RejudgeHallModel" yX8_points yX8_points ∈ AW := aw_of (i := 1070) (by decide +kernel) rfl
theorem aw_1071 : Cond.code yX8_points prog_10_method_23_code 5 (some .int) ∈ AW := aw_of (i := 1071) (by decide +kernel) rfl
theorem aw_1072 : Cond.methodLink "RejudgeHallLaw" 109 yX8_mend ∈ AW := aw_of (i := 1072) (by decide +kernel) rfl
theorem aw_1073 : Cond.instanceMethod yX8_mend ∈ AW := aw_of (i := 1073) (by decide +kernel) rfl
theorem aw_1074 : Cond.selects "RejudgeHallModel" yX8_mend yX8_mend ∈ AW := aw_of (i := 1074) (by decide +kernel) rfl
theorem aw_1075 : Cond.code yX8_mend prog_10_method_24_code 5 (some .int) ∈ AW := aw_of (i := 1075) (by decide +kernel) rfl
theorem aw_1076 : Cond.methodLink "RejudgeHallLaw" 112 yX8_answer ∈ AW := aw_of (i := 1076) (by decide +kernel) rfl
theorem aw_1077 : Cond.instanceMethod yX8_answer ∈ AW := aw_of (i := 1077) (by decide +kernel) rfl
theorem aw_1078 : Cond.selects "RejudgeHallModel" yX8_answer yX8_answer ∈ AW := aw_of (i := 1078) (by decide +kernel) rfl
theorem aw_1079 : Cond.code yX8_answer prog_10_method_25_code 5 (some .int) ∈ AW := aw_of (i := 1079) (by decide +kernel) rfl
theorem aw_1080 : Cond.methodLink "RejudgeHallLaw" 115 yX8_enter ∈ AW := aw_of (i := 1080) (by decide +kernel) rfl
theorem aw_1081 : Cond.instanceMethod yX8_enter ∈ AW := aw_of (i := 1081) (by decide +kernel) rfl
theorem aw_1082 : Cond.selects "RejudgeHallModel" yX8_enter yX8_enter ∈ AW := aw_of (i := 1082) (by decide +kernel) rfl
theorem aw_1083 : Cond.code yX8_enter prog_10_method_29_code 3 (some .int) ∈ AW := aw_of (i := 1083) (by decide +kernel) rfl
theorem aw_1084 : Cond.methodLink "RejudgeHallModel" 183 yX8_isTeam ∈ AW := aw_of (i := 1084) (by decide +kernel) rfl
theorem aw_1085 : Cond.static yX8_isTeam ∈ AW := aw_of (i := 1085) (by decide +kernel) rfl
theorem aw_1086 : Cond.code yX8_isTeam prog_10_method_6_code 1 (some .boolean) ∈ AW := aw_of (i := 1086) (by decide +kernel) rfl
theorem aw_1087 : Cond.methodLink "RejudgeHallLaw" 118 yX8_pass ∈ AW := aw_of (i := 1087) (by decide +kernel) rfl
theorem aw_1088 : Cond.instanceMethod yX8_pass ∈ AW := aw_of (i := 1088) (by decide +kernel) rfl
theorem aw_1089 : Cond.selects "RejudgeHallModel" yX8_pass yX8_pass ∈ AW := aw_of (i := 1089) (by decide +kernel) rfl
theorem aw_1090 : Cond.code yX8_pass prog_10_method_30_code 2 (some .int) ∈ AW := aw_of (i := 1090) (by decide +kernel) rfl
theorem aw_1091 : Cond.methodLink "RejudgeHallLaw" 122 yX8_judge ∈ AW := aw_of (i := 1091) (by decide +kernel) rfl
theorem aw_1092 : Cond.instanceMethod yX8_judge ∈ AW := aw_of (i := 1092) (by decide +kernel) rfl
theorem aw_1093 : Cond.selects "RejudgeHallModel" yX8_judge yX8_judge ∈ AW := aw_of (i := 1093) (by decide +kernel) rfl
theorem aw_1094 : Cond.code yX8_judge prog_10_method_31_code 4 (some .int) ∈ AW := aw_of (i := 1094) (by decide +kernel) rfl
theorem aw_1095 : Cond.methodLink "RejudgeHallModel" 189 yX8_judges ∈ AW := aw_of (i := 1095) (by decide +kernel) rfl
theorem aw_1097 : Cond.instanceMethod yX8_judges ∈ AW := aw_of (i := 1097) (by decide +kernel) rfl
theorem aw_1098 : Cond.code yX8_judges prog_10_method_28_code 7 (none : Option Jvm.ClassFile.FieldType) ∈ AW := aw_of (i := 1098) (by decide +kernel) rfl
theorem aw_1099 : Cond.methodLink "RejudgeHallModel" 176 yX8_does ∈ AW := aw_of (i := 1099) (by decide +kernel) rfl
theorem aw_1101 : Cond.instanceMethod yX8_does ∈ AW := aw_of (i := 1101) (by decide +kernel) rfl
theorem aw_1102 : Cond.code yX8_does prog_10_method_26_code 8 (some .int) ∈ AW := aw_of (i := 1102) (by decide +kernel) rfl
theorem aw_1103 : Cond.methodLink "RejudgeHallModel" 180 yX8_firstFailed ∈ AW := aw_of (i := 1103) (by decide +kernel) rfl
theorem aw_1105 : Cond.instanceMethod yX8_firstFailed ∈ AW := aw_of (i := 1105) (by decide +kernel) rfl
theorem aw_1106 : Cond.code yX8_firstFailed prog_10_method_27_code 4 (some .int) ∈ AW := aw_of (i := 1106) (by decide +kernel) rfl
theorem aw_1107 : Cond.methodLink "RejudgeHallLaw" 125 yX8_rejudge ∈ AW := aw_of (i := 1107) (by decide +kernel) rfl
theorem aw_1108 : Cond.instanceMethod yX8_rejudge ∈ AW := aw_of (i := 1108) (by decide +kernel) rfl
theorem aw_1109 : Cond.selects "RejudgeHallModel" yX8_rejudge yX8_rejudge ∈ AW := aw_of (i := 1109) (by decide +kernel) rfl
theorem aw_1110 : Cond.code yX8_rejudge prog_10_method_32_code 4 (some .int) ∈ AW := aw_of (i := 1110) (by decide +kernel) rfl
theorem aw_1111 : Cond.methodLink "RejudgeHallLaw" 128 yX8_entry ∈ AW := aw_of (i := 1111) (by decide +kernel) rfl
theorem aw_1112 : Cond.instanceMethod yX8_entry ∈ AW := aw_of (i := 1112) (by decide +kernel) rfl
theorem aw_1113 : Cond.selects "RejudgeHallModel" yX8_entry yX8_entry ∈ AW := aw_of (i := 1113) (by decide +kernel) rfl
theorem aw_1114 : Cond.code yX8_entry prog_10_method_33_code 4 (some .int) ∈ AW := aw_of (i := 1114) (by decide +kernel) rfl
theorem aw_1115 : Cond.methodLink "RejudgeHallModel" 192 yX8_isEntry ∈ AW := aw_of (i := 1115) (by decide +kernel) rfl
theorem aw_1117 : Cond.instanceMethod yX8_isEntry ∈ AW := aw_of (i := 1117) (by decide +kernel) rfl
theorem aw_1118 : Cond.code yX8_isEntry prog_10_method_5_code 2 (some .boolean) ∈ AW := aw_of (i := 1118) (by decide +kernel) rfl
theorem aw_1119 : Cond.methodLink "RejudgeHallLaw" 131 yX8_likeness ∈ AW := aw_of (i := 1119) (by decide +kernel) rfl
theorem aw_1120 : Cond.instanceMethod yX8_likeness ∈ AW := aw_of (i := 1120) (by decide +kernel) rfl
theorem aw_1121 : Cond.selects "RejudgeHallModel" yX8_likeness yX8_likeness ∈ AW := aw_of (i := 1121) (by decide +kernel) rfl
theorem aw_1122 : Cond.code yX8_likeness prog_10_method_35_code 11 (some .int) ∈ AW := aw_of (i := 1122) (by decide +kernel) rfl
theorem aw_1123 : Cond.methodLink "RejudgeHallModel" 195 yX8_areAlike ∈ AW := aw_of (i := 1123) (by decide +kernel) rfl
theorem aw_1125 : Cond.instanceMethod yX8_areAlike ∈ AW := aw_of (i := 1125) (by decide +kernel) rfl
theorem aw_1126 : Cond.code yX8_areAlike prog_10_method_34_code 4 (some .boolean) ∈ AW := aw_of (i := 1126) (by decide +kernel) rfl
theorem aw_1127 : Cond.methodLink "RejudgeHallLaw" 135 yX8_freeze ∈ AW := aw_of (i := 1127) (by decide +kernel) rfl
theorem aw_1128 : Cond.instanceMethod yX8_freeze ∈ AW := aw_of (i := 1128) (by decide +kernel) rfl
theorem aw_1129 : Cond.selects "RejudgeHallModel" yX8_freeze yX8_freeze ∈ AW := aw_of (i := 1129) (by decide +kernel) rfl
theorem aw_1130 : Cond.code yX8_freeze prog_10_method_42_code 3 (none : Option Jvm.ClassFile.FieldType) ∈ AW := aw_of (i := 1130) (by decide +kernel) rfl
theorem aw_1131 : Cond.methodLink "RejudgeHallLaw" 139 yX8_reveal ∈ AW := aw_of (i := 1131) (by decide +kernel) rfl
theorem aw_1132 : Cond.instanceMethod yX8_reveal ∈ AW := aw_of (i := 1132) (by decide +kernel) rfl
theorem aw_1133 : Cond.selects "RejudgeHallModel" yX8_reveal yX8_reveal ∈ AW := aw_of (i := 1133) (by decide +kernel) rfl
theorem aw_1134 : Cond.code yX8_reveal prog_10_method_44_code 4 (some .int) ∈ AW := aw_of (i := 1134) (by decide +kernel) rfl
theorem aw_1135 : Cond.methodLink "RejudgeHallModel" 211 yX8_tells ∈ AW := aw_of (i := 1135) (by decide +kernel) rfl
theorem aw_1137 : Cond.instanceMethod yX8_tells ∈ AW := aw_of (i := 1137) (by decide +kernel) rfl
theorem aw_1138 : Cond.code yX8_tells prog_10_method_39_code 4 (none : Option Jvm.ClassFile.FieldType) ∈ AW := aw_of (i := 1138) (by decide +kernel) rfl
theorem aw_1139 : Cond.methodLink "RejudgeHallModel" 202 yX8_isLate ∈ AW := aw_of (i := 1139) (by decide +kernel) rfl
theorem aw_1141 : Cond.instanceMethod yX8_isLate ∈ AW := aw_of (i := 1141) (by decide +kernel) rfl
theorem aw_1142 : Cond.code yX8_isLate prog_10_method_36_code 2 (some .boolean) ∈ AW := aw_of (i := 1142) (by decide +kernel) rfl
theorem aw_1143 : Cond.methodLink "RejudgeHallModel" 205 yX8_boards ∈ AW := aw_of (i := 1143) (by decide +kernel) rfl
theorem aw_1145 : Cond.instanceMethod yX8_boards ∈ AW := aw_of (i := 1145) (by decide +kernel) rfl
theorem aw_1146 : Cond.code yX8_boards prog_10_method_38_code 5 (none : Option Jvm.ClassFile.FieldType) ∈ AW := aw_of (i := 1146) (by decide +kernel) rfl
theorem aw_1147 : Cond.methodLink "RejudgeHallModel" 198 yX8_counts ∈ AW := aw_of (i := 1147) (by decide +kernel) rfl
theorem aw_1149 : Cond.instanceMethod yX8_counts ∈ AW := aw_of (i := 1149) (by decide +kernel) rfl
theorem aw_1150 : Cond.code yX8_counts prog_10_method_37_code 4 (some .int) ∈ AW := aw_of (i := 1150) (by decide +kernel) rfl
theorem aw_1151 : Cond.methodLink "RejudgeHallModel" 215 yX8_toReveal ∈ AW := aw_of (i := 1151) (by decide +kernel) rfl
theorem aw_1153 : Cond.instanceMethod yX8_toReveal ∈ AW := aw_of (i := 1153) (by decide +kernel) rfl
theorem aw_1154 : Cond.code yX8_toReveal prog_10_method_43_code 5 (some .int) ∈ AW := aw_of (i := 1154) (by decide +kernel) rfl
theorem aw_1155 : Cond.methodLink "RejudgeHallModel" 208 yX8_isAhead ∈ AW := aw_of (i := 1155) (by decide +kernel) rfl
theorem aw_1157 : Cond.instanceMethod yX8_isAhead ∈ AW := aw_of (i := 1157) (by decide +kernel) rfl
theorem aw_1158 : Cond.code yX8_isAhead prog_10_method_40_code 3 (some .boolean) ∈ AW := aw_of (i := 1158) (by decide +kernel) rfl
theorem aw_1159 : Cond.methodLink "RejudgeHallLaw" 143 yX8_board ∈ AW := aw_of (i := 1159) (by decide +kernel) rfl
theorem aw_1160 : Cond.instanceMethod yX8_board ∈ AW := aw_of (i := 1160) (by decide +kernel) rfl
theorem aw_1161 : Cond.selects "RejudgeHallModel" yX8_board yX8_board ∈ AW := aw_of (i := 1161) (by decide +kernel) rfl
theorem aw_1162 : Cond.code yX8_board prog_10_method_45_code 4 (some .int) ∈ AW := aw_of (i := 1162) (by decide +kernel) rfl
theorem aw_1163 : Cond.methodLink "RejudgeHallModel" 218 yX8_placeOf ∈ AW := aw_of (i := 1163) (by decide +kernel) rfl
theorem aw_1165 : Cond.instanceMethod yX8_placeOf ∈ AW := aw_of (i := 1165) (by decide +kernel) rfl
theorem aw_1166 : Cond.code yX8_placeOf prog_10_method_41_code 4 (some .int) ∈ AW := aw_of (i := 1166) (by decide +kernel) rfl
theorem aw_1167 : Cond.methodLink "RejudgeHallLaw" 146 yX8_placeAnew ∈ AW := aw_of (i := 1167) (by decide +kernel) rfl
theorem aw_1168 : Cond.instanceMethod yX8_placeAnew ∈ AW := aw_of (i := 1168) (by decide +kernel) rfl
theorem aw_1169 : Cond.selects "RejudgeHallModel" yX8_placeAnew yX8_placeAnew ∈ AW := aw_of (i := 1169) (by decide +kernel) rfl
theorem aw_1170 : Cond.code yX8_placeAnew prog_10_method_46_code 3 (some .int) ∈ AW := aw_of (i := 1170) (by decide +kernel) rfl
theorem aw_1171 : Cond.methodLink "RejudgeHallLaw" 149 yX8_hack ∈ AW := aw_of (i := 1171) (by decide +kernel) rfl
theorem aw_1172 : Cond.instanceMethod yX8_hack ∈ AW := aw_of (i := 1172) (by decide +kernel) rfl
theorem aw_1173 : Cond.selects "RejudgeHallModel" yX8_hack yX8_hack ∈ AW := aw_of (i := 1173) (by decide +kernel) rfl
theorem aw_1174 : Cond.code yX8_hack prog_10_method_47_code 6 (some .boolean) ∈ AW := aw_of (i := 1174) (by decide +kernel) rfl
theorem aw_1175 : Cond.arrayClass .long ∈ AW := aw_of (i := 1175) (by decide +kernel) rfl
theorem aw_1177 : Cond.castable "RejudgeHall" "java/lang/Object" ∈ AW := aw_of (i := 1177) (by decide +kernel) rfl
theorem aw_1178 : Cond.castable "RejudgeHall$Program" "java/lang/Object" ∈ AW := aw_of (i := 1178) (by decide +kernel) rfl
theorem aw_1179 : Cond.castable "RejudgeHall$Row" "java/lang/Object" ∈ AW := aw_of (i := 1179) (by decide +kernel) rfl
theorem aw_1180 : Cond.castable "RejudgeHall$Machine" "java/lang/Object" ∈ AW := aw_of (i := 1180) (by decide +kernel) rfl
theorem aw_1181 : Cond.castable "java/util/ArrayList" "java/lang/Object" ∈ AW := aw_of (i := 1181) (by decide +kernel) rfl
theorem aw_1182 : Cond.castable "RejudgeHall$Standings" "java/lang/Object" ∈ AW := aw_of (i := 1182) (by decide +kernel) rfl
theorem aw_1183 : Cond.castable "RejudgeHallModel" "java/lang/Object" ∈ AW := aw_of (i := 1183) (by decide +kernel) rfl
theorem aw_1184 : Cond.castable "java/lang/IllegalArgumentException" "java/lang/Object" ∈ AW := aw_of (i := 1184) (by decide +kernel) rfl
theorem aw_1185 : Cond.castable "java/lang/IllegalStateException" "java/lang/Object" ∈ AW := aw_of (i := 1185) (by decide +kernel) rfl
theorem aw_1186 : Cond.castable "RejudgeHall$Problem" "java/lang/Object" ∈ AW := aw_of (i := 1186) (by decide +kernel) rfl
theorem aw_1187 : Cond.castable "java/lang/IndexOutOfBoundsException" "java/lang/Object" ∈ AW := aw_of (i := 1187) (by decide +kernel) rfl
theorem aw_1188 : Cond.castable "RejudgeHall$Trial" "java/lang/Object" ∈ AW := aw_of (i := 1188) (by decide +kernel) rfl
theorem aw_1189 : Cond.castable "RejudgeHall$Entry" "java/lang/Object" ∈ AW := aw_of (i := 1189) (by decide +kernel) rfl
theorem aw_1190 : Cond.castable "java/lang/Throwable" "java/lang/Object" ∈ AW := aw_of (i := 1190) (by decide +kernel) rfl
theorem aw_1191 : Cond.castable "java/lang/String" "java/lang/Object" ∈ AW := aw_of (i := 1191) (by decide +kernel) rfl
theorem aw_1193 : Cond.selects "[Ljava/lang/Object;" ⟨"java/lang/Object", "getClass", "()Ljava/lang/Class;"⟩ ⟨"java/lang/Object", "getClass", "()Ljava/lang/Class;"⟩ ∈ AW := aw_of (i := 1193) (by decide +kernel) rfl
theorem aw_1195 : Cond.castable "[I" "java/lang/Object" ∈ AW := aw_of (i := 1195) (by decide +kernel) rfl
theorem aw_1196 : Cond.castable "[Z" "java/lang/Object" ∈ AW := aw_of (i := 1196) (by decide +kernel) rfl
theorem aw_1197 : Cond.castable "[B" "java/lang/Object" ∈ AW := aw_of (i := 1197) (by decide +kernel) rfl
theorem aw_1198 : Cond.castable "[Ljava/lang/Object;" "java/lang/Object" ∈ AW := aw_of (i := 1198) (by decide +kernel) rfl
theorem aw_1199 : Cond.castable "[J" "java/lang/Object" ∈ AW := aw_of (i := 1199) (by decide +kernel) rfl
theorem aw_list {ws : List Cond} (is : List Nat) (h : ws = is.filterMap (fun i => lw_tbl[i]?)) (hm : ws.all mvW = true) : ∀ w ∈ ws, w ∈ AW := by
  intro w hw
  have h1 := List.all_eq_true.mp hm w hw
  rw [h] at hw
  obtain ⟨i, -, hi⟩ := List.mem_filterMap.mp hw
  exact aw_of hi h1
theorem ck_0 : Cls 0 RJx4a65c TJx4a65c tyJx4a65c := ⟨rfl, aw_list [182, 178, 180] (by decide +kernel) rfl, tyJx4a65c_ok, nmJx4a65c⟩
theorem ck_1 : Cls 1 RX0 TX0 tyX0 := ⟨rfl, aw_list [759, 761, 763, 765, 767, 769, 771, 773] (by decide +kernel) rfl, tyX0_ok, nmX0⟩
theorem ck_2 : Cls 2 RX1 TX1 tyX1 := ⟨rfl, aw_list [148, 150, 152, 154, 156] (by decide +kernel) rfl, tyX1_ok, nmX1⟩
theorem ck_3 : Cls 3 RX2 TX2 tyX2 := ⟨rfl, aw_list [551, 553, 555, 557, 559, 561, 563] (by decide +kernel) rfl, tyX2_ok, nmX2⟩
theorem ck_4 : Cls 4 RX3 TX3 tyX3 := ⟨rfl, aw_list [110, 112, 114] (by decide +kernel) rfl, tyX3_ok, nmX3⟩
theorem ck_5 : Cls 5 RX4 TX4 tyX4 := ⟨rfl, aw_list [128, 130] (by decide +kernel) rfl, tyX4_ok, nmX4⟩
theorem ck_6 : Cls 6 RX5 TX5 tyX5 := ⟨rfl, aw_list [199, 201, 203, 205, 207] (by decide +kernel) rfl, tyX5_ok, nmX5⟩
theorem ck_7 : Cls 7 RX6 TX6 tyX6 := ⟨rfl, aw_list [682, 684, 686] (by decide +kernel) rfl, tyX6_ok, nmX6⟩
theorem ck_8 : Cls 8 RX7 TX7 tyX7 := ⟨rfl, aw_list [223, 225, 227, 229, 231, 233, 235, 237, 239, 241, 243, 245] (by decide +kernel) rfl, tyX7_ok, nmX7⟩
theorem ck_9 : Cls 9 RX8 TX8 tyX8 := ⟨rfl, aw_list [913, 915, 917, 919, 921, 923, 925, 927, 929, 931, 933, 935, 937, 939, 941, 943, 945, 947, 949, 951, 953, 955, 957, 959, 961, 963, 965, 967, 969, 971, 973, 975, 977, 979, 981, 983, 985, 987, 989] (by decide +kernel) rfl, tyX8_ok, nmX8⟩
