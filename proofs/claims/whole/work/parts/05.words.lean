theorem aw_of0 {w : Cond} {i : Nat} (h : (k2_sels lw_privs)[i]? = some w) (hm : mvW w = true) : w ∈ AW := List.mem_filter.mpr ⟨List.mem_append_left _ (List.mem_of_getElem? h), hm⟩
theorem aw_of1 {w : Cond} {i : Nat} (h : tables_1_1[i]? = some w) (hm : mvW w = true) : w ∈ AW := List.mem_filter.mpr ⟨List.mem_append_right _ (show w ∈ tables_1_1 ++ (tables_1_2 ++ (tables_1_3 ++ (tables_1_4 ++ tables_1_5))) from (List.mem_append_left _ (List.mem_of_getElem? h))), hm⟩
theorem aw_of2 {w : Cond} {i : Nat} (h : tables_1_2[i]? = some w) (hm : mvW w = true) : w ∈ AW := List.mem_filter.mpr ⟨List.mem_append_right _ (show w ∈ tables_1_1 ++ (tables_1_2 ++ (tables_1_3 ++ (tables_1_4 ++ tables_1_5))) from (List.mem_append_right _ (List.mem_append_left _ (List.mem_of_getElem? h)))), hm⟩
theorem aw_of3 {w : Cond} {i : Nat} (h : tables_1_3[i]? = some w) (hm : mvW w = true) : w ∈ AW := List.mem_filter.mpr ⟨List.mem_append_right _ (show w ∈ tables_1_1 ++ (tables_1_2 ++ (tables_1_3 ++ (tables_1_4 ++ tables_1_5))) from (List.mem_append_right _ (List.mem_append_right _ (List.mem_append_left _ (List.mem_of_getElem? h))))), hm⟩
theorem aw_of4 {w : Cond} {i : Nat} (h : tables_1_4[i]? = some w) (hm : mvW w = true) : w ∈ AW := List.mem_filter.mpr ⟨List.mem_append_right _ (show w ∈ tables_1_1 ++ (tables_1_2 ++ (tables_1_3 ++ (tables_1_4 ++ tables_1_5))) from (List.mem_append_right _ (List.mem_append_right _ (List.mem_append_right _ (List.mem_append_left _ (List.mem_of_getElem? h)))))), hm⟩
theorem aw_of5 {w : Cond} {i : Nat} (h : tables_1_5[i]? = some w) (hm : mvW w = true) : w ∈ AW := List.mem_filter.mpr ⟨List.mem_append_right _ (show w ∈ tables_1_1 ++ (tables_1_2 ++ (tables_1_3 ++ (tables_1_4 ++ tables_1_5))) from (List.mem_append_right _ (List.mem_append_right _ (List.mem_append_right _ (List.mem_append_right _ (List.mem_of_getElem? h)))))), hm⟩
theorem aw_0 : Cond.selects "RejudgeHall$Entry" yX0_waits yX0_waits ∈ AW := aw_of0 (i := 0) rfl rfl
theorem aw_1 : Cond.selects "RejudgeHall" yX7_giveVerdict yX7_giveVerdict ∈ AW := aw_of0 (i := 1) rfl rfl
theorem aw_2 : Cond.selects "RejudgeHall" yX7_tryOut yX7_tryOut ∈ AW := aw_of0 (i := 2) rfl rfl
theorem aw_3 : Cond.selects "RejudgeHall$Machine" yX1_execute yX1_execute ∈ AW := aw_of0 (i := 3) rfl rfl
theorem aw_4 : Cond.selects "RejudgeHall$Machine" yX1_step yX1_step ∈ AW := aw_of0 (i := 4) rfl rfl
theorem aw_5 : Cond.selects "RejudgeHall$Program" yX3_has yX3_has ∈ AW := aw_of0 (i := 5) rfl rfl
theorem aw_6 : Cond.selects "RejudgeHall$Row" yX4_at yX4_at ∈ AW := aw_of0 (i := 6) rfl rfl
theorem aw_7 : Cond.selects "RejudgeHall$Machine" yX1_put yX1_put ∈ AW := aw_of0 (i := 7) rfl rfl
theorem aw_8 : Cond.selects "RejudgeHall$Row" yX4_isFull yX4_isFull ∈ AW := aw_of0 (i := 8) rfl rfl
theorem aw_9 : Cond.selects "RejudgeHall$Row" yX4_push yX4_push ∈ AW := aw_of0 (i := 9) rfl rfl
theorem aw_10 : Cond.selects "RejudgeHall$Machine" yX1_make yX1_make ∈ AW := aw_of0 (i := 10) rfl rfl
theorem aw_11 : Cond.selects "RejudgeHall$Row" yX4_pop yX4_pop ∈ AW := aw_of0 (i := 11) rfl rfl
theorem aw_12 : Cond.selects "RejudgeHall$Machine" yX1_swap yX1_swap ∈ AW := aw_of0 (i := 12) rfl rfl
theorem aw_13 : Cond.selects "RejudgeHall$Machine" yX1_goIfZero yX1_goIfZero ∈ AW := aw_of0 (i := 13) rfl rfl
theorem aw_14 : Cond.selects "RejudgeHall$Machine" yX1_goTo yX1_goTo ∈ AW := aw_of0 (i := 14) rfl rfl
theorem aw_15 : Cond.selects "RejudgeHall$Machine" yX1_print yX1_print ∈ AW := aw_of0 (i := 15) rfl rfl
theorem aw_16 : Cond.selects "RejudgeHall$Row" yX4_isWithin yX4_isWithin ∈ AW := aw_of0 (i := 16) rfl rfl
theorem aw_17 : Cond.selects "RejudgeHall$Problem" yX2_pointsOf yX2_pointsOf ∈ AW := aw_of0 (i := 17) rfl rfl
theorem aw_18 : Cond.selects "RejudgeHall" yX7_countVerdicts yX7_countVerdicts ∈ AW := aw_of0 (i := 18) rfl rfl
theorem aw_19 : Cond.selects "RejudgeHall$Standings" yX5_wipe yX5_wipe ∈ AW := aw_of0 (i := 19) rfl rfl
theorem aw_20 : Cond.selects "RejudgeHall" yX7_isHidden yX7_isHidden ∈ AW := aw_of0 (i := 20) rfl rfl
theorem aw_21 : Cond.selects "RejudgeHall" yX7_isLate yX7_isLate ∈ AW := aw_of0 (i := 21) rfl rfl
theorem aw_22 : Cond.selects "RejudgeHall$Standings" yX5_count yX5_count ∈ AW := aw_of0 (i := 22) rfl rfl
theorem aw_23 : Cond.selects "RejudgeHall" yX7_lowestHidden yX7_lowestHidden ∈ AW := aw_of0 (i := 23) rfl rfl
theorem aw_24 : Cond.selects "RejudgeHall$Standings" yX5_isAhead yX5_isAhead ∈ AW := aw_of0 (i := 24) rfl rfl
theorem aw_25 : Cond.selects "java/lang/Throwable" ⟨"java/lang/Throwable", "fillInStackTrace", "(I)Ljava/lang/Throwable;"⟩ ⟨"java/lang/Throwable", "fillInStackTrace", "(I)Ljava/lang/Throwable;"⟩ ∈ AW := aw_of0 (i := 25) rfl rfl
theorem aw_26 : Cond.selects "RejudgeHall$Program" yX3_append yX3_append ∈ AW := aw_of0 (i := 26) rfl rfl
theorem aw_27 : Cond.selects "RejudgeHall$Program" yX3_takeFrom yX3_takeFrom ∈ AW := aw_of0 (i := 27) rfl rfl
theorem aw_28 : Cond.selects "java/util/ArrayList" yJx4a65c_add_72be8 yJx4a65c_add_72be8 ∈ AW := aw_of0 (i := 28) rfl rfl
theorem aw_29 : Cond.selects "java/util/ArrayList" yJx4a65c_grow_d5877 yJx4a65c_grow_d5877 ∈ AW := aw_of0 (i := 29) rfl rfl
theorem aw_30 : Cond.selects "java/util/ArrayList" yJx4a65c_grow_92f84 yJx4a65c_grow_92f84 ∈ AW := aw_of0 (i := 30) rfl rfl
theorem aw_31 : Cond.selects "RejudgeHall" yX7_problemAt yX7_problemAt ∈ AW := aw_of0 (i := 31) rfl rfl
theorem aw_32 : Cond.selects "RejudgeHall" yX7_findsAnswer yX7_findsAnswer ∈ AW := aw_of0 (i := 32) rfl rfl
theorem aw_33 : Cond.selects "RejudgeHall$Row" yX4_copyFrom yX4_copyFrom ∈ AW := aw_of0 (i := 33) rfl rfl
theorem aw_34 : Cond.selects "RejudgeHall$Problem" yX2_addTrial yX2_addTrial ∈ AW := aw_of0 (i := 34) rfl rfl
theorem aw_35 : Cond.selects "RejudgeHall" yX7_findsAllAnswers yX7_findsAllAnswers ∈ AW := aw_of0 (i := 35) rfl rfl
theorem aw_36 : Cond.selects "RejudgeHall" yX7_renewAnswers yX7_renewAnswers ∈ AW := aw_of0 (i := 36) rfl rfl
theorem aw_37 : Cond.selects "RejudgeHall$Entry" yX0_letWait yX0_letWait ∈ AW := aw_of0 (i := 37) rfl rfl
theorem aw_38 : Cond.selects "RejudgeHall" yX7_entryAt yX7_entryAt ∈ AW := aw_of0 (i := 38) rfl rfl
theorem aw_39 : Cond.selects "RejudgeHall" yX7_longestCommon yX7_longestCommon ∈ AW := aw_of0 (i := 39) rfl rfl
theorem aw_40 : Cond.selects "RejudgeHall$Program" yX3_isAlikeAt yX3_isAlikeAt ∈ AW := aw_of0 (i := 40) rfl rfl
theorem aw_41 : Cond.selects "RejudgeHall$Standings" yX5_placeOf yX5_placeOf ∈ AW := aw_of0 (i := 41) rfl rfl
theorem aw_42 : Cond.selects "RejudgeHall" yX7_passesAll yX7_passesAll ∈ AW := aw_of0 (i := 42) rfl rfl
theorem aw_43 : Cond.selects "RejudgeHall" yX7_hasSolved yX7_hasSolved ∈ AW := aw_of0 (i := 43) rfl rfl
theorem aw_44 : Cond.selects "RejudgeHallModel" yX8_empties yX8_empties ∈ AW := aw_of0 (i := 44) rfl rfl
theorem aw_45 : Cond.selects "RejudgeHallModel" yX8_runs yX8_runs ∈ AW := aw_of0 (i := 45) rfl rfl
theorem aw_46 : Cond.selects "RejudgeHallModel" yX8_pushes yX8_pushes ∈ AW := aw_of0 (i := 46) rfl rfl
theorem aw_47 : Cond.selects "RejudgeHallModel" yX8_makes yX8_makes ∈ AW := aw_of0 (i := 47) rfl rfl
theorem aw_48 : Cond.selects "RejudgeHallModel" yX8_copies yX8_copies ∈ AW := aw_of0 (i := 48) rfl rfl
theorem aw_49 : Cond.selects "RejudgeHallModel" yX8_isProblem yX8_isProblem ∈ AW := aw_of0 (i := 49) rfl rfl
theorem aw_50 : Cond.selects "RejudgeHallModel" yX8_answers yX8_answers ∈ AW := aw_of0 (i := 50) rfl rfl
theorem aw_51 : Cond.selects "RejudgeHallModel" yX8_becomes yX8_becomes ∈ AW := aw_of0 (i := 51) rfl rfl
theorem aw_52 : Cond.selects "RejudgeHallModel" yX8_judges yX8_judges ∈ AW := aw_of0 (i := 52) rfl rfl
theorem aw_53 : Cond.selects "RejudgeHallModel" yX8_does yX8_does ∈ AW := aw_of0 (i := 53) rfl rfl
theorem aw_54 : Cond.selects "RejudgeHallModel" yX8_firstFailed yX8_firstFailed ∈ AW := aw_of0 (i := 54) rfl rfl
theorem aw_55 : Cond.selects "RejudgeHallModel" yX8_isEntry yX8_isEntry ∈ AW := aw_of0 (i := 55) rfl rfl
theorem aw_56 : Cond.selects "RejudgeHallModel" yX8_areAlike yX8_areAlike ∈ AW := aw_of0 (i := 56) rfl rfl
theorem aw_57 : Cond.selects "RejudgeHallModel" yX8_tells yX8_tells ∈ AW := aw_of0 (i := 57) rfl rfl
theorem aw_58 : Cond.selects "RejudgeHallModel" yX8_isLate yX8_isLate ∈ AW := aw_of0 (i := 58) rfl rfl
theorem aw_59 : Cond.selects "RejudgeHallModel" yX8_boards yX8_boards ∈ AW := aw_of0 (i := 59) rfl rfl
theorem aw_60 : Cond.selects "RejudgeHallModel" yX8_counts yX8_counts ∈ AW := aw_of0 (i := 60) rfl rfl
theorem aw_61 : Cond.selects "RejudgeHallModel" yX8_toReveal yX8_toReveal ∈ AW := aw_of0 (i := 61) rfl rfl
theorem aw_62 : Cond.selects "RejudgeHallModel" yX8_isAhead yX8_isAhead ∈ AW := aw_of0 (i := 62) rfl rfl
theorem aw_63 : Cond.selects "RejudgeHallModel" yX8_placeOf yX8_placeOf ∈ AW := aw_of0 (i := 63) rfl rfl
theorem aw_64 : Cond.initialized "RejudgeHallLaw" ∈ AW := aw_of1 (i := 0) rfl rfl
theorem aw_65 : Cond.initialized "RejudgeHall" ∈ AW := aw_of1 (i := 1) rfl rfl
theorem aw_66 : Cond.initialized "RejudgeHall$Program" ∈ AW := aw_of1 (i := 2) rfl rfl
theorem aw_67 : Cond.initialized "RejudgeHall$Row" ∈ AW := aw_of1 (i := 3) rfl rfl
theorem aw_68 : Cond.initialized "RejudgeHall$Machine" ∈ AW := aw_of1 (i := 4) rfl rfl
theorem aw_69 : Cond.initialized "java/util/AbstractCollection" ∈ AW := aw_of1 (i := 5) rfl rfl
theorem aw_70 : Cond.initialized "java/util/AbstractList" ∈ AW := aw_of1 (i := 6) rfl rfl
theorem aw_71 : Cond.initialized "java/util/ArrayList" ∈ AW := aw_of1 (i := 7) rfl rfl
theorem aw_72 : Cond.initialized "RejudgeHall$Standings" ∈ AW := aw_of1 (i := 8) rfl rfl
theorem aw_73 : Cond.initialized "RejudgeHallModel" ∈ AW := aw_of1 (i := 9) rfl rfl
theorem aw_74 : Cond.initialized "java/lang/Throwable" ∈ AW := aw_of1 (i := 10) rfl rfl
theorem aw_75 : Cond.initialized "java/lang/Exception" ∈ AW := aw_of1 (i := 11) rfl rfl
theorem aw_76 : Cond.initialized "java/lang/RuntimeException" ∈ AW := aw_of1 (i := 12) rfl rfl
theorem aw_77 : Cond.initialized "java/lang/IllegalArgumentException" ∈ AW := aw_of1 (i := 13) rfl rfl
theorem aw_78 : Cond.initialized "java/lang/IllegalStateException" ∈ AW := aw_of1 (i := 14) rfl rfl
theorem aw_79 : Cond.initialized "RejudgeHall$Problem" ∈ AW := aw_of1 (i := 15) rfl rfl
theorem aw_80 : Cond.initialized "java/util/Arrays" ∈ AW := aw_of1 (i := 16) rfl rfl
theorem aw_81 : Cond.initialized "java/lang/System" ∈ AW := aw_of1 (i := 17) rfl rfl
theorem aw_82 : Cond.initialized "jdk/internal/util/ArraysSupport" ∈ AW := aw_of1 (i := 18) rfl rfl
theorem aw_83 : Cond.initialized "java/lang/Math" ∈ AW := aw_of1 (i := 19) rfl rfl
theorem aw_84 : Cond.initialized "java/lang/IndexOutOfBoundsException" ∈ AW := aw_of1 (i := 20) rfl rfl
theorem aw_85 : Cond.initialized "java/util/Objects" ∈ AW := aw_of1 (i := 21) rfl rfl
theorem aw_86 : Cond.initialized "jdk/internal/util/Preconditions" ∈ AW := aw_of1 (i := 22) rfl rfl
theorem aw_87 : Cond.initialized "RejudgeHall$Trial" ∈ AW := aw_of1 (i := 23) rfl rfl
theorem aw_88 : Cond.initialized "RejudgeHall$Entry" ∈ AW := aw_of1 (i := 24) rfl rfl
theorem aw_89 : Cond.classLink "RejudgeHallLaw" 8 "RejudgeHall" ∈ AW := aw_of1 (i := 25) rfl rfl
theorem aw_90 : Cond.instantiable "RejudgeHall" 12 ∈ AW := aw_of1 (i := 26) rfl rfl
theorem aw_91 : Cond.methodLink "RejudgeHallLaw" 72 yX7_init ∈ AW := aw_of1 (i := 27) rfl rfl
theorem aw_92 : Cond.instanceMethod yX7_init ∈ AW := aw_of1 (i := 28) rfl rfl
theorem aw_93 : Cond.code yX7_init prog_1_method_1_code 1 (none : Option Jvm.ClassFile.FieldType) ∈ AW := aw_of1 (i := 29) rfl rfl
theorem aw_94 : Cond.methodLink "RejudgeHall" 1 ⟨"java/lang/Object", "<init>", "()V"⟩ ∈ AW := aw_of1 (i := 30) rfl rfl
theorem aw_95 : Cond.instanceMethod ⟨"java/lang/Object", "<init>", "()V"⟩ ∈ AW := aw_of1 (i := 31) rfl rfl
theorem aw_96 : Cond.code ⟨"java/lang/Object", "<init>", "()V"⟩ object_method_1_code 1 (none : Option Jvm.ClassFile.FieldType) ∈ AW := aw_of1 (i := 32) rfl rfl
theorem aw_97 : Cond.classLink "RejudgeHall" 7 "RejudgeHall$Program" ∈ AW := aw_of1 (i := 33) rfl rfl
theorem aw_98 : Cond.instantiable "RejudgeHall$Program" 3 ∈ AW := aw_of1 (i := 34) rfl rfl
theorem aw_99 : Cond.methodLinkNest "RejudgeHall" 9 yX3_init "RejudgeHall" ∈ AW := aw_of1 (i := 35) rfl rfl
theorem aw_100 : Cond.instanceMethod yX3_init ∈ AW := aw_of1 (i := 36) rfl rfl
theorem aw_101 : Cond.code yX3_init prog_5_method_1_code 1 (none : Option Jvm.ClassFile.FieldType) ∈ AW := aw_of1 (i := 37) rfl rfl
theorem aw_102 : Cond.methodLink "RejudgeHall$Program" 3 ⟨"java/lang/Object", "<init>", "()V"⟩ ∈ AW := aw_of1 (i := 38) rfl rfl
theorem aw_103 : Cond.fieldLink "RejudgeHall$Program" 9 "RejudgeHall$Program" "sorts" "[I" ∈ AW := aw_of1 (i := 39) rfl rfl
theorem aw_104 : Cond.fieldLinkNest "RejudgeHall$Machine" 45 "RejudgeHall$Program" "sorts" "[I" "RejudgeHall" ∈ AW := aw_of1 (i := 40) rfl rfl
theorem aw_105 : Cond.fieldLink "RejudgeHall$Program" 15 "RejudgeHall$Program" "numbers" "[I" ∈ AW := aw_of1 (i := 41) rfl rfl
theorem aw_106 : Cond.fieldLinkNest "RejudgeHall$Machine" 49 "RejudgeHall$Program" "numbers" "[I" "RejudgeHall" ∈ AW := aw_of1 (i := 42) rfl rfl
theorem aw_107 : Cond.fieldLink "RejudgeHall$Program" 18 "RejudgeHall$Program" "length" "I" ∈ AW := aw_of1 (i := 43) rfl rfl
theorem aw_108 : Cond.fieldLinkNest "RejudgeHall" 72 "RejudgeHall$Program" "length" "I" "RejudgeHall" ∈ AW := aw_of1 (i := 44) rfl rfl
theorem aw_109 : Cond.fieldLinkNest "RejudgeHall$Machine" 34 "RejudgeHall$Program" "length" "I" "RejudgeHall" ∈ AW := aw_of1 (i := 45) rfl rfl
theorem aw_117 : Cond.arrayClass .int ∈ AW := aw_of1 (i := 53) rfl rfl
theorem aw_118 : Cond.classLink "RejudgeHall" 16 "RejudgeHall$Row" ∈ AW := aw_of1 (i := 54) rfl rfl
theorem aw_119 : Cond.instantiable "RejudgeHall$Row" 2 ∈ AW := aw_of1 (i := 55) rfl rfl
theorem aw_120 : Cond.methodLinkNest "RejudgeHall" 18 yX4_init "RejudgeHall" ∈ AW := aw_of1 (i := 56) rfl rfl
theorem aw_121 : Cond.instanceMethod yX4_init ∈ AW := aw_of1 (i := 57) rfl rfl
theorem aw_122 : Cond.code yX4_init prog_6_method_1_code 1 (none : Option Jvm.ClassFile.FieldType) ∈ AW := aw_of1 (i := 58) rfl rfl
theorem aw_123 : Cond.methodLink "RejudgeHall$Row" 3 ⟨"java/lang/Object", "<init>", "()V"⟩ ∈ AW := aw_of1 (i := 59) rfl rfl
theorem aw_124 : Cond.fieldLink "RejudgeHall$Row" 9 "RejudgeHall$Row" "numbers" "[I" ∈ AW := aw_of1 (i := 60) rfl rfl
theorem aw_125 : Cond.fieldLink "RejudgeHall$Row" 15 "RejudgeHall$Row" "length" "I" ∈ AW := aw_of1 (i := 61) rfl rfl
theorem aw_126 : Cond.fieldLinkNest "RejudgeHall$Machine" 31 "RejudgeHall$Row" "length" "I" "RejudgeHall" ∈ AW := aw_of1 (i := 62) rfl rfl
theorem aw_127 : Cond.fieldLinkNest "RejudgeHall" 86 "RejudgeHall$Row" "length" "I" "RejudgeHall" ∈ AW := aw_of1 (i := 63) rfl rfl
theorem aw_133 : Cond.classLink "RejudgeHall" 23 "RejudgeHall$Machine" ∈ AW := aw_of1 (i := 69) rfl rfl
theorem aw_134 : Cond.instantiable "RejudgeHall$Machine" 5 ∈ AW := aw_of1 (i := 70) rfl rfl
theorem aw_135 : Cond.methodLinkNest "RejudgeHall" 25 yX1_init "RejudgeHall" ∈ AW := aw_of1 (i := 71) rfl rfl
theorem aw_136 : Cond.instanceMethod yX1_init ∈ AW := aw_of1 (i := 72) rfl rfl
theorem aw_137 : Cond.code yX1_init prog_3_method_1_code 1 (none : Option Jvm.ClassFile.FieldType) ∈ AW := aw_of1 (i := 73) rfl rfl
theorem aw_138 : Cond.methodLink "RejudgeHall$Machine" 3 ⟨"java/lang/Object", "<init>", "()V"⟩ ∈ AW := aw_of1 (i := 74) rfl rfl
theorem aw_139 : Cond.classLink "RejudgeHall$Machine" 9 "RejudgeHall$Row" ∈ AW := aw_of1 (i := 75) rfl rfl
theorem aw_140 : Cond.methodLinkNest "RejudgeHall$Machine" 11 yX4_init "RejudgeHall" ∈ AW := aw_of1 (i := 76) rfl rfl
theorem aw_141 : Cond.fieldLink "RejudgeHall$Machine" 12 "RejudgeHall$Machine" "stack" "LRejudgeHall$Row;" ∈ AW := aw_of1 (i := 77) rfl rfl
theorem aw_142 : Cond.fieldLink "RejudgeHall$Machine" 18 "RejudgeHall$Machine" "output" "LRejudgeHall$Row;" ∈ AW := aw_of1 (i := 78) rfl rfl
theorem aw_143 : Cond.fieldLinkNest "RejudgeHall" 100 "RejudgeHall$Machine" "output" "LRejudgeHall$Row;" "RejudgeHall" ∈ AW := aw_of1 (i := 79) rfl rfl
theorem aw_144 : Cond.fieldLink "RejudgeHall$Machine" 21 "RejudgeHall$Machine" "steps" "I" ∈ AW := aw_of1 (i := 80) rfl rfl
theorem aw_145 : Cond.fieldLinkNest "RejudgeHall" 97 "RejudgeHall$Machine" "steps" "I" "RejudgeHall" ∈ AW := aw_of1 (i := 81) rfl rfl
theorem aw_146 : Cond.fieldLink "RejudgeHall$Machine" 25 "RejudgeHall$Machine" "next" "I" ∈ AW := aw_of1 (i := 82) rfl rfl
theorem aw_147 : Cond.fieldLink "RejudgeHall$Machine" 28 "RejudgeHall$Machine" "inputsRead" "I" ∈ AW := aw_of1 (i := 83) rfl rfl
theorem aw_159 : Cond.classLink "RejudgeHall" 30 "java/util/ArrayList" ∈ AW := aw_of1 (i := 95) rfl rfl
theorem aw_160 : Cond.instantiable "java/util/ArrayList" 3 ∈ AW := aw_of1 (i := 96) rfl rfl
theorem aw_161 : Cond.methodLink "RejudgeHall" 32 yJx4a65c_init_da8c8 ∈ AW := aw_of1 (i := 97) rfl rfl
theorem aw_162 : Cond.instanceMethod yJx4a65c_init_da8c8 ∈ AW := aw_of1 (i := 98) rfl rfl
theorem aw_163 : Cond.code yJx4a65c_init_da8c8 prog_25_method_2_code 1 (none : Option Jvm.ClassFile.FieldType) ∈ AW := aw_of1 (i := 99) rfl rfl
theorem aw_164 : Cond.methodLink "java/util/ArrayList" 1 yJxc12de_init_da8c8 ∈ AW := aw_of1 (i := 100) rfl rfl
theorem aw_165 : Cond.instanceMethod yJxc12de_init_da8c8 ∈ AW := aw_of1 (i := 101) rfl rfl
theorem aw_166 : Cond.code yJxc12de_init_da8c8 prog_24_method_1_code 1 (none : Option Jvm.ClassFile.FieldType) ∈ AW := aw_of1 (i := 102) rfl rfl
theorem aw_167 : Cond.methodLink "java/util/AbstractList" 1 yJxa1e45_init_da8c8 ∈ AW := aw_of1 (i := 103) rfl rfl
theorem aw_168 : Cond.instanceMethod yJxa1e45_init_da8c8 ∈ AW := aw_of1 (i := 104) rfl rfl
theorem aw_169 : Cond.code yJxa1e45_init_da8c8 prog_23_method_1_code 1 (none : Option Jvm.ClassFile.FieldType) ∈ AW := aw_of1 (i := 105) rfl rfl
theorem aw_170 : Cond.methodLink "java/util/AbstractCollection" 1 ⟨"java/lang/Object", "<init>", "()V"⟩ ∈ AW := aw_of1 (i := 106) rfl rfl
theorem aw_171 : Cond.fieldLink "java/util/ArrayList" 39 "java/util/ArrayList" "DEFAULTCAPACITY_EMPTY_ELEMENTDATA" "[Ljava/lang/Object;" ∈ AW := aw_of1 (i := 107) rfl rfl
theorem aw_173 : Cond.fieldLink "java/util/ArrayList" 9 "java/util/ArrayList" "elementData" "[Ljava/lang/Object;" ∈ AW := aw_of1 (i := 109) rfl rfl
theorem aw_174 : Cond.fieldLink "java/util/ArrayList" 48 "java/util/ArrayList" "size" "I" ∈ AW := aw_of1 (i := 110) rfl rfl
theorem aw_175 : Cond.fieldLink "java/util/AbstractList" 7 "java/util/AbstractList" "modCount" "I" ∈ AW := aw_of1 (i := 111) rfl rfl
theorem aw_176 : Cond.fieldLink "java/util/ArrayList" 63 "java/util/ArrayList" "modCount" "I" ∈ AW := aw_of1 (i := 112) rfl rfl
theorem aw_177 : Cond.sameField "java/util/ArrayList" "java/util/AbstractList" "modCount" "I" ∈ AW := aw_of1 (i := 113) rfl rfl
theorem aw_185 : Cond.classLink "RejudgeHall" 40 "RejudgeHall$Standings" ∈ AW := aw_of1 (i := 121) rfl rfl
theorem aw_186 : Cond.instantiable "RejudgeHall$Standings" 5 ∈ AW := aw_of1 (i := 122) rfl rfl
theorem aw_187 : Cond.methodLinkNest "RejudgeHall" 42 yX5_init "RejudgeHall" ∈ AW := aw_of1 (i := 123) rfl rfl
theorem aw_188 : Cond.instanceMethod yX5_init ∈ AW := aw_of1 (i := 124) rfl rfl
theorem aw_189 : Cond.code yX5_init prog_7_method_1_code 1 (none : Option Jvm.ClassFile.FieldType) ∈ AW := aw_of1 (i := 125) rfl rfl
theorem aw_190 : Cond.methodLink "RejudgeHall$Standings" 3 ⟨"java/lang/Object", "<init>", "()V"⟩ ∈ AW := aw_of1 (i := 126) rfl rfl
theorem aw_191 : Cond.fieldLink "RejudgeHall$Standings" 9 "RejudgeHall$Standings" "solved" "[I" ∈ AW := aw_of1 (i := 127) rfl rfl
theorem aw_192 : Cond.fieldLinkNest "RejudgeHall" 261 "RejudgeHall$Standings" "solved" "[I" "RejudgeHall" ∈ AW := aw_of1 (i := 128) rfl rfl
theorem aw_193 : Cond.fieldLink "RejudgeHall$Standings" 15 "RejudgeHall$Standings" "sums" "[I" ∈ AW := aw_of1 (i := 129) rfl rfl
theorem aw_194 : Cond.fieldLinkNest "RejudgeHall" 264 "RejudgeHall$Standings" "sums" "[I" "RejudgeHall" ∈ AW := aw_of1 (i := 130) rfl rfl
theorem aw_195 : Cond.fieldLink "RejudgeHall$Standings" 18 "RejudgeHall$Standings" "latest" "[I" ∈ AW := aw_of1 (i := 131) rfl rfl
theorem aw_196 : Cond.fieldLinkNest "RejudgeHall" 267 "RejudgeHall$Standings" "latest" "[I" "RejudgeHall" ∈ AW := aw_of1 (i := 132) rfl rfl
theorem aw_197 : Cond.fieldLink "RejudgeHall$Standings" 21 "RejudgeHall$Standings" "tries" "[I" ∈ AW := aw_of1 (i := 133) rfl rfl
theorem aw_198 : Cond.fieldLink "RejudgeHall$Standings" 24 "RejudgeHall$Standings" "isSolved" "[Z" ∈ AW := aw_of1 (i := 134) rfl rfl
theorem aw_210 : Cond.arrayClass .boolean ∈ AW := aw_of1 (i := 146) rfl rfl
theorem aw_211 : Cond.fieldLink "RejudgeHall" 10 "RejudgeHall" "deskProgram" "LRejudgeHall$Program;" ∈ AW := aw_of1 (i := 147) rfl rfl
theorem aw_212 : Cond.fieldLink "RejudgeHall" 19 "RejudgeHall" "deskInput" "LRejudgeHall$Row;" ∈ AW := aw_of1 (i := 148) rfl rfl
theorem aw_213 : Cond.fieldLink "RejudgeHall" 26 "RejudgeHall" "machine" "LRejudgeHall$Machine;" ∈ AW := aw_of1 (i := 149) rfl rfl
theorem aw_214 : Cond.fieldLink "RejudgeHall" 33 "RejudgeHall" "problems" "Ljava/util/ArrayList;" ∈ AW := aw_of1 (i := 150) rfl rfl
theorem aw_215 : Cond.fieldLink "RejudgeHall" 37 "RejudgeHall" "entries" "Ljava/util/ArrayList;" ∈ AW := aw_of1 (i := 151) rfl rfl
theorem aw_216 : Cond.fieldLink "RejudgeHall" 43 "RejudgeHall" "standings" "LRejudgeHall$Standings;" ∈ AW := aw_of1 (i := 152) rfl rfl
theorem aw_217 : Cond.fieldLink "RejudgeHall" 47 "RejudgeHall" "judgings" "[I" ∈ AW := aw_of1 (i := 153) rfl rfl
theorem aw_218 : Cond.fieldLink "RejudgeHall" 51 "RejudgeHall" "hacks" "[I" ∈ AW := aw_of1 (i := 154) rfl rfl
theorem aw_219 : Cond.fieldLink "RejudgeHall" 54 "RejudgeHall" "revealed" "[Z" ∈ AW := aw_of1 (i := 155) rfl rfl
theorem aw_220 : Cond.fieldLink "RejudgeHall" 58 "RejudgeHall" "commonRow" "[I" ∈ AW := aw_of1 (i := 156) rfl rfl
theorem aw_221 : Cond.fieldLink "RejudgeHall" 61 "RejudgeHall" "minute" "I" ∈ AW := aw_of1 (i := 157) rfl rfl
theorem aw_222 : Cond.fieldLink "RejudgeHall" 65 "RejudgeHall" "frozenFrom" "I" ∈ AW := aw_of1 (i := 158) rfl rfl
theorem aw_248 : Cond.methodLink "RejudgeHallLaw" 90 yX7_clear ∈ AW := aw_of1 (i := 184) rfl rfl
theorem aw_249 : Cond.instanceMethod yX7_clear ∈ AW := aw_of1 (i := 185) rfl rfl
theorem aw_250 : Cond.selects "RejudgeHall" yX7_clear yX7_clear ∈ AW := aw_of1 (i := 186) rfl rfl
theorem aw_251 : Cond.code yX7_clear prog_1_method_4_code 2 (some .int) ∈ AW := aw_of1 (i := 187) rfl rfl
theorem aw_252 : Cond.methodLink "RejudgeHallLaw" 119 yX7_judge ∈ AW := aw_of1 (i := 188) rfl rfl
theorem aw_253 : Cond.instanceMethod yX7_judge ∈ AW := aw_of1 (i := 189) rfl rfl
theorem aw_254 : Cond.selects "RejudgeHall" yX7_judge yX7_judge ∈ AW := aw_of1 (i := 190) rfl rfl
theorem aw_255 : Cond.code yX7_judge prog_1_method_13_code 5 (some .int) ∈ AW := aw_of1 (i := 191) rfl rfl
theorem aw_256 : Cond.methodLink "RejudgeHall" 107 yJx4a65c_size_8abf5 ∈ AW := aw_of1 (i := 192) rfl rfl
theorem aw_257 : Cond.instanceMethod yJx4a65c_size_8abf5 ∈ AW := aw_of1 (i := 193) rfl rfl
theorem aw_258 : Cond.selects "java/util/ArrayList" yJx4a65c_size_8abf5 yJx4a65c_size_8abf5 ∈ AW := aw_of1 (i := 194) rfl rfl
theorem aw_259 : Cond.code yJx4a65c_size_8abf5 prog_25_method_8_code 1 (some .int) ∈ AW := aw_of1 (i := 195) rfl rfl
theorem aw_260 : Cond.methodLink "RejudgeHall" 182 yJx4a65c_get_915e3 ∈ AW := aw_of1 (i := 196) rfl rfl
theorem aw_261 : Cond.instanceMethod yJx4a65c_get_915e3 ∈ AW := aw_of1 (i := 197) rfl rfl
theorem aw_262 : Cond.selects "java/util/ArrayList" yJx4a65c_get_915e3 yJx4a65c_get_915e3 ∈ AW := aw_of1 (i := 198) rfl rfl
theorem aw_263 : Cond.code yJx4a65c_get_915e3 prog_25_method_20_code 2 (some (.object "java/lang/Object")) ∈ AW := aw_of1 (i := 199) rfl rfl
theorem aw_264 : Cond.methodLink "java/util/ArrayList" 118 yJ15_checkIndex_7cf53 ∈ AW := aw_of1 (i := 200) rfl rfl
theorem aw_265 : Cond.static yJ15_checkIndex_7cf53 ∈ AW := aw_of1 (i := 201) rfl rfl
theorem aw_266 : Cond.code yJ15_checkIndex_7cf53 prog_29_method_17_code 2 (some .int) ∈ AW := aw_of1 (i := 202) rfl rfl
theorem aw_267 : Cond.methodLink "java/util/Objects" 105 yJ3_checkIndex_8e157 ∈ AW := aw_of1 (i := 203) rfl rfl
theorem aw_268 : Cond.static yJ3_checkIndex_8e157 ∈ AW := aw_of1 (i := 204) rfl rfl
theorem aw_269 : Cond.code yJ3_checkIndex_8e157 prog_33_method_11_code 3 (some .int) ∈ AW := aw_of1 (i := 205) rfl rfl
theorem aw_270 : Cond.methodLink "java/util/ArrayList" 123 yJx4a65c_elementData_915e3 ∈ AW := aw_of1 (i := 206) rfl rfl
theorem aw_271 : Cond.instanceMethod yJx4a65c_elementData_915e3 ∈ AW := aw_of1 (i := 207) rfl rfl
theorem aw_272 : Cond.selects "java/util/ArrayList" yJx4a65c_elementData_915e3 yJx4a65c_elementData_915e3 ∈ AW := aw_of1 (i := 208) rfl rfl
theorem aw_273 : Cond.code yJx4a65c_elementData_915e3 prog_25_method_18_code 2 (some (.object "java/lang/Object")) ∈ AW := aw_of1 (i := 209) rfl rfl
theorem aw_274 : Cond.classLink "RejudgeHall" 191 "RejudgeHall$Entry" ∈ AW := aw_of1 (i := 210) rfl rfl
theorem aw_275 : Cond.methodLinkNest "RejudgeHall" 201 yX0_waits "RejudgeHall" ∈ AW := aw_of1 (i := 211) rfl rfl
theorem aw_277 : Cond.instanceMethod yX0_waits ∈ AW := aw_of1 (i := 213) rfl rfl
theorem aw_278 : Cond.instantiable "RejudgeHall$Entry" 8 ∈ AW := aw_of1 (i := 214) rfl rfl
theorem aw_279 : Cond.code yX0_waits prog_2_method_2_code 1 (some .boolean) ∈ AW := aw_of1 (i := 215) rfl rfl
theorem aw_280 : Cond.methodLink "RejudgeHall" 208 yX7_giveVerdict ∈ AW := aw_of1 (i := 216) rfl rfl
theorem aw_282 : Cond.instanceMethod yX7_giveVerdict ∈ AW := aw_of1 (i := 218) rfl rfl
theorem aw_283 : Cond.code yX7_giveVerdict prog_1_method_31_code 8 (none : Option Jvm.ClassFile.FieldType) ∈ AW := aw_of1 (i := 219) rfl rfl
theorem aw_284 : Cond.classLink "RejudgeHall" 149 "RejudgeHall$Trial" ∈ AW := aw_of1 (i := 220) rfl rfl
theorem aw_285 : Cond.methodLink "RejudgeHall" 291 yX7_tryOut ∈ AW := aw_of1 (i := 221) rfl rfl
theorem aw_287 : Cond.instanceMethod yX7_tryOut ∈ AW := aw_of1 (i := 223) rfl rfl
theorem aw_288 : Cond.code yX7_tryOut prog_1_method_29_code 5 (some .int) ∈ AW := aw_of1 (i := 224) rfl rfl
theorem aw_289 : Cond.methodLinkNest "RejudgeHall" 93 yX1_execute "RejudgeHall" ∈ AW := aw_of1 (i := 225) rfl rfl
theorem aw_291 : Cond.instanceMethod yX1_execute ∈ AW := aw_of1 (i := 227) rfl rfl
theorem aw_292 : Cond.code yX1_execute prog_3_method_2_code 5 (some .int) ∈ AW := aw_of1 (i := 228) rfl rfl
theorem aw_293 : Cond.methodLink "RejudgeHall$Machine" 37 yX1_step ∈ AW := aw_of1 (i := 229) rfl rfl
theorem aw_295 : Cond.instanceMethod yX1_step ∈ AW := aw_of1 (i := 231) rfl rfl
theorem aw_296 : Cond.code yX1_step prog_3_method_3_code 5 (some .int) ∈ AW := aw_of1 (i := 232) rfl rfl
theorem aw_297 : Cond.methodLinkNest "RejudgeHall$Machine" 41 yX3_has "RejudgeHall" ∈ AW := aw_of1 (i := 233) rfl rfl
theorem aw_299 : Cond.instanceMethod yX3_has ∈ AW := aw_of1 (i := 235) rfl rfl
theorem aw_300 : Cond.code yX3_has prog_5_method_4_code 2 (some .boolean) ∈ AW := aw_of1 (i := 236) rfl rfl
theorem aw_301 : Cond.methodLinkNest "RejudgeHall$Machine" 52 yX4_at "RejudgeHall" ∈ AW := aw_of1 (i := 237) rfl rfl
theorem aw_303 : Cond.instanceMethod yX4_at ∈ AW := aw_of1 (i := 239) rfl rfl
theorem aw_304 : Cond.code yX4_at prog_6_method_5_code 2 (some .int) ∈ AW := aw_of2 (i := 0) rfl rfl
theorem aw_305 : Cond.methodLink "RejudgeHall$Machine" 56 yX1_put ∈ AW := aw_of2 (i := 1) rfl rfl
theorem aw_307 : Cond.instanceMethod yX1_put ∈ AW := aw_of2 (i := 3) rfl rfl
theorem aw_308 : Cond.code yX1_put prog_3_method_4_code 2 (some .int) ∈ AW := aw_of2 (i := 4) rfl rfl
theorem aw_309 : Cond.methodLinkNest "RejudgeHall$Machine" 76 yX4_isFull "RejudgeHall" ∈ AW := aw_of2 (i := 5) rfl rfl
theorem aw_311 : Cond.instanceMethod yX4_isFull ∈ AW := aw_of2 (i := 7) rfl rfl
theorem aw_312 : Cond.code yX4_isFull prog_6_method_2_code 1 (some .boolean) ∈ AW := aw_of2 (i := 8) rfl rfl
theorem aw_313 : Cond.methodLinkNest "RejudgeHall$Machine" 80 yX4_push "RejudgeHall" ∈ AW := aw_of2 (i := 9) rfl rfl
theorem aw_315 : Cond.instanceMethod yX4_push ∈ AW := aw_of2 (i := 11) rfl rfl
theorem aw_316 : Cond.code yX4_push prog_6_method_3_code 2 (none : Option Jvm.ClassFile.FieldType) ∈ AW := aw_of2 (i := 12) rfl rfl
theorem aw_317 : Cond.methodLink "RejudgeHall$Machine" 59 yX1_make ∈ AW := aw_of2 (i := 13) rfl rfl
theorem aw_319 : Cond.instanceMethod yX1_make ∈ AW := aw_of2 (i := 15) rfl rfl
theorem aw_320 : Cond.code yX1_make prog_3_method_5_code 8 (some .int) ∈ AW := aw_of2 (i := 16) rfl rfl
theorem aw_321 : Cond.methodLinkNest "RejudgeHall$Machine" 84 yX4_pop "RejudgeHall" ∈ AW := aw_of2 (i := 17) rfl rfl
theorem aw_323 : Cond.instanceMethod yX4_pop ∈ AW := aw_of2 (i := 19) rfl rfl
theorem aw_324 : Cond.code yX4_pop prog_6_method_4_code 1 (some .int) ∈ AW := aw_of2 (i := 20) rfl rfl
theorem aw_325 : Cond.constantLong "RejudgeHall$Machine" 87 (999999 : Int64) ∈ AW := aw_of2 (i := 21) rfl rfl
theorem aw_326 : Cond.constantLong "RejudgeHall$Machine" 89 (-999999 : Int64) ∈ AW := aw_of2 (i := 22) rfl rfl
theorem aw_327 : Cond.methodLink "RejudgeHall$Machine" 62 yX1_swap ∈ AW := aw_of2 (i := 23) rfl rfl
theorem aw_329 : Cond.instanceMethod yX1_swap ∈ AW := aw_of2 (i := 25) rfl rfl
theorem aw_330 : Cond.code yX1_swap prog_3_method_6_code 3 (some .int) ∈ AW := aw_of2 (i := 26) rfl rfl
theorem aw_331 : Cond.methodLink "RejudgeHall$Machine" 66 yX1_goIfZero ∈ AW := aw_of2 (i := 27) rfl rfl
theorem aw_333 : Cond.instanceMethod yX1_goIfZero ∈ AW := aw_of2 (i := 29) rfl rfl
theorem aw_334 : Cond.code yX1_goIfZero prog_3_method_7_code 3 (some .int) ∈ AW := aw_of2 (i := 30) rfl rfl
theorem aw_335 : Cond.methodLink "RejudgeHall$Machine" 70 yX1_goTo ∈ AW := aw_of2 (i := 31) rfl rfl
theorem aw_337 : Cond.instanceMethod yX1_goTo ∈ AW := aw_of2 (i := 33) rfl rfl
theorem aw_338 : Cond.code yX1_goTo prog_3_method_8_code 3 (some .int) ∈ AW := aw_of2 (i := 34) rfl rfl
theorem aw_339 : Cond.methodLink "RejudgeHall$Machine" 73 yX1_print ∈ AW := aw_of2 (i := 35) rfl rfl
theorem aw_341 : Cond.instanceMethod yX1_print ∈ AW := aw_of2 (i := 37) rfl rfl
theorem aw_342 : Cond.code yX1_print prog_3_method_9_code 1 (some .int) ∈ AW := aw_of2 (i := 38) rfl rfl
theorem aw_343 : Cond.methodLinkNest "RejudgeHall" 312 yX4_isWithin "RejudgeHall" ∈ AW := aw_of2 (i := 39) rfl rfl
theorem aw_345 : Cond.instanceMethod yX4_isWithin ∈ AW := aw_of2 (i := 41) rfl rfl
theorem aw_346 : Cond.code yX4_isWithin prog_6_method_7_code 4 (some .boolean) ∈ AW := aw_of2 (i := 42) rfl rfl
theorem aw_347 : Cond.methodLink "RejudgeHall$Row" 25 yX4_at ∈ AW := aw_of2 (i := 43) rfl rfl
theorem aw_348 : Cond.methodLink "RejudgeHall$Row" 29 yJ9_abs_0f7a4 ∈ AW := aw_of2 (i := 44) rfl rfl
theorem aw_349 : Cond.static yJ9_abs_0f7a4 ∈ AW := aw_of2 (i := 45) rfl rfl
theorem aw_350 : Cond.code yJ9_abs_0f7a4 prog_18_method_59_code 1 (some .int) ∈ AW := aw_of2 (i := 46) rfl rfl
theorem aw_351 : Cond.methodLinkNest "RejudgeHall" 319 yX2_pointsOf "RejudgeHall" ∈ AW := aw_of2 (i := 47) rfl rfl
theorem aw_353 : Cond.instanceMethod yX2_pointsOf ∈ AW := aw_of2 (i := 49) rfl rfl
theorem aw_354 : Cond.instantiable "RejudgeHall$Problem" 7 ∈ AW := aw_of2 (i := 50) rfl rfl
theorem aw_355 : Cond.code yX2_pointsOf prog_4_method_3_code 4 (some .int) ∈ AW := aw_of2 (i := 51) rfl rfl
theorem aw_356 : Cond.methodLink "RejudgeHallLaw" 136 yX7_reveal ∈ AW := aw_of2 (i := 52) rfl rfl
theorem aw_357 : Cond.instanceMethod yX7_reveal ∈ AW := aw_of2 (i := 53) rfl rfl
theorem aw_358 : Cond.selects "RejudgeHall" yX7_reveal yX7_reveal ∈ AW := aw_of2 (i := 54) rfl rfl
theorem aw_359 : Cond.code yX7_reveal prog_1_method_18_code 3 (some .int) ∈ AW := aw_of2 (i := 55) rfl rfl
theorem aw_360 : Cond.methodLink "RejudgeHall" 244 yX7_countVerdicts ∈ AW := aw_of2 (i := 56) rfl rfl
theorem aw_362 : Cond.instanceMethod yX7_countVerdicts ∈ AW := aw_of2 (i := 58) rfl rfl
theorem aw_363 : Cond.code yX7_countVerdicts prog_1_method_37_code 4 (none : Option Jvm.ClassFile.FieldType) ∈ AW := aw_of2 (i := 59) rfl rfl
theorem aw_364 : Cond.methodLinkNest "RejudgeHall" 270 yX5_wipe "RejudgeHall" ∈ AW := aw_of2 (i := 60) rfl rfl
theorem aw_366 : Cond.instanceMethod yX5_wipe ∈ AW := aw_of2 (i := 62) rfl rfl
theorem aw_367 : Cond.code yX5_wipe prog_7_method_2_code 2 (none : Option Jvm.ClassFile.FieldType) ∈ AW := aw_of2 (i := 63) rfl rfl
theorem aw_368 : Cond.methodLink "RejudgeHall$Standings" 28 yJ7_fill_53178 ∈ AW := aw_of2 (i := 64) rfl rfl
theorem aw_369 : Cond.static yJ7_fill_53178 ∈ AW := aw_of2 (i := 65) rfl rfl
theorem aw_370 : Cond.code yJ7_fill_53178 prog_26_method_103_code 4 (none : Option Jvm.ClassFile.FieldType) ∈ AW := aw_of2 (i := 66) rfl rfl
theorem aw_371 : Cond.methodLink "RejudgeHall" 338 yX7_isHidden ∈ AW := aw_of2 (i := 67) rfl rfl
theorem aw_373 : Cond.instanceMethod yX7_isHidden ∈ AW := aw_of2 (i := 69) rfl rfl
theorem aw_374 : Cond.code yX7_isHidden prog_1_method_36_code 2 (some .boolean) ∈ AW := aw_of2 (i := 70) rfl rfl
theorem aw_375 : Cond.methodLink "RejudgeHall" 335 yX7_isLate ∈ AW := aw_of2 (i := 71) rfl rfl
theorem aw_377 : Cond.instanceMethod yX7_isLate ∈ AW := aw_of2 (i := 73) rfl rfl
theorem aw_378 : Cond.code yX7_isLate prog_1_method_35_code 2 (some .boolean) ∈ AW := aw_of2 (i := 74) rfl rfl
theorem aw_379 : Cond.methodLink "RejudgeHall" 255 yX7_pairOf ∈ AW := aw_of2 (i := 75) rfl rfl
theorem aw_380 : Cond.static yX7_pairOf ∈ AW := aw_of2 (i := 76) rfl rfl
theorem aw_381 : Cond.code yX7_pairOf prog_1_method_34_code 2 (some .int) ∈ AW := aw_of2 (i := 77) rfl rfl
theorem aw_382 : Cond.methodLinkNest "RejudgeHall" 277 yX5_count "RejudgeHall" ∈ AW := aw_of2 (i := 78) rfl rfl
theorem aw_384 : Cond.instanceMethod yX5_count ∈ AW := aw_of2 (i := 80) rfl rfl
theorem aw_385 : Cond.code yX5_count prog_7_method_3_code 4 (none : Option Jvm.ClassFile.FieldType) ∈ AW := aw_of2 (i := 81) rfl rfl
theorem aw_386 : Cond.methodLinkNest "RejudgeHall$Standings" 49 yX7_pairOf "RejudgeHall" ∈ AW := aw_of2 (i := 82) rfl rfl
theorem aw_387 : Cond.methodLink "RejudgeHall$Standings" 56 yJ9_max_7cf53 ∈ AW := aw_of2 (i := 83) rfl rfl
theorem aw_388 : Cond.static yJ9_max_7cf53 ∈ AW := aw_of2 (i := 84) rfl rfl
theorem aw_389 : Cond.code yJ9_max_7cf53 prog_18_method_65_code 2 (some .int) ∈ AW := aw_of2 (i := 85) rfl rfl
theorem aw_390 : Cond.methodLink "RejudgeHall" 248 yX7_lowestHidden ∈ AW := aw_of2 (i := 86) rfl rfl
theorem aw_392 : Cond.instanceMethod yX7_lowestHidden ∈ AW := aw_of2 (i := 88) rfl rfl
theorem aw_393 : Cond.code yX7_lowestHidden prog_1_method_38_code 6 (some .int) ∈ AW := aw_of2 (i := 89) rfl rfl
theorem aw_394 : Cond.methodLink "RejudgeHall" 332 yJ9_min_7cf53 ∈ AW := aw_of2 (i := 90) rfl rfl
theorem aw_395 : Cond.static yJ9_min_7cf53 ∈ AW := aw_of2 (i := 91) rfl rfl
theorem aw_396 : Cond.code yJ9_min_7cf53 prog_18_method_69_code 2 (some .int) ∈ AW := aw_of2 (i := 92) rfl rfl
theorem aw_397 : Cond.methodLinkNest "RejudgeHall" 251 yX5_isAhead "RejudgeHall" ∈ AW := aw_of2 (i := 93) rfl rfl
theorem aw_399 : Cond.instanceMethod yX5_isAhead ∈ AW := aw_of2 (i := 95) rfl rfl
theorem aw_400 : Cond.code yX5_isAhead prog_7_method_4_code 3 (some .boolean) ∈ AW := aw_of2 (i := 96) rfl rfl
theorem aw_401 : Cond.methodLink "RejudgeHallLaw" 76 yL_code ∈ AW := aw_of2 (i := 97) rfl rfl
theorem aw_402 : Cond.static yL_code ∈ AW := aw_of2 (i := 98) rfl rfl
theorem aw_403 : Cond.codeWith yL_code method_3_code 5 (some .int) [(0, 10, 13, 13), (0, 10, 17, 15)] ∈ AW := aw_of2 (i := 99) rfl rfl
theorem aw_404 : Cond.classLink "RejudgeHallLaw" 13 "java/lang/IllegalArgumentException" ∈ AW := aw_of2 (i := 100) rfl rfl
theorem aw_405 : Cond.classLink "RejudgeHallLaw" 15 "java/lang/IllegalStateException" ∈ AW := aw_of2 (i := 101) rfl rfl
theorem aw_406 : Cond.methodLink "RejudgeHallLaw" 7 yX7_code ∈ AW := aw_of2 (i := 102) rfl rfl
theorem aw_407 : Cond.instanceMethod yX7_code ∈ AW := aw_of2 (i := 103) rfl rfl
theorem aw_408 : Cond.selects "RejudgeHall" yX7_code yX7_code ∈ AW := aw_of2 (i := 104) rfl rfl
theorem aw_409 : Cond.code yX7_code prog_1_method_2_code 3 (some .int) ∈ AW := aw_of2 (i := 105) rfl rfl
theorem aw_410 : Cond.methodLink "RejudgeHall" 68 yX7_needRange ∈ AW := aw_of2 (i := 106) rfl rfl
theorem aw_411 : Cond.static yX7_needRange ∈ AW := aw_of2 (i := 107) rfl rfl
theorem aw_412 : Cond.code yX7_needRange prog_1_method_22_code 3 (none : Option Jvm.ClassFile.FieldType) ∈ AW := aw_of2 (i := 108) rfl rfl
theorem aw_413 : Cond.classLink "RejudgeHall" 295 "java/lang/IllegalArgumentException" ∈ AW := aw_of2 (i := 109) rfl rfl
theorem aw_414 : Cond.instantiable "java/lang/IllegalArgumentException" 6 ∈ AW := aw_of2 (i := 110) rfl rfl
theorem aw_415 : Cond.castable "java/lang/IllegalArgumentException" "java/lang/IllegalArgumentException" ∈ AW := aw_of2 (i := 111) rfl rfl
theorem aw_416 : Cond.declares ⟨"java/lang/RuntimeException", "<init>", "()V"⟩ ∈ AW := aw_of2 (i := 112) rfl rfl
theorem aw_417 : Cond.declares ⟨"java/lang/RuntimeException", "<init>", "(Ljava/lang/String;)V"⟩ ∈ AW := aw_of2 (i := 113) rfl rfl
theorem aw_418 : Cond.declares ⟨"java/lang/Exception", "<init>", "()V"⟩ ∈ AW := aw_of2 (i := 114) rfl rfl
theorem aw_419 : Cond.declares ⟨"java/lang/Exception", "<init>", "(Ljava/lang/String;)V"⟩ ∈ AW := aw_of2 (i := 115) rfl rfl
theorem aw_420 : Cond.declares ⟨"java/lang/Throwable", "<init>", "()V"⟩ ∈ AW := aw_of2 (i := 116) rfl rfl
theorem aw_421 : Cond.declares ⟨"java/lang/Throwable", "<init>", "(Ljava/lang/String;)V"⟩ ∈ AW := aw_of2 (i := 117) rfl rfl
theorem aw_422 : Cond.selects "java/lang/IllegalArgumentException" ⟨"java/lang/Throwable", "fillInStackTrace", "(I)Ljava/lang/Throwable;"⟩ ⟨"java/lang/Throwable", "fillInStackTrace", "(I)Ljava/lang/Throwable;"⟩ ∈ AW := aw_of2 (i := 118) rfl rfl
theorem aw_423 : Cond.selects "java/lang/IllegalArgumentException" ⟨"java/lang/Throwable", "fillInStackTrace", "()Ljava/lang/Throwable;"⟩ ⟨"java/lang/Throwable", "fillInStackTrace", "()Ljava/lang/Throwable;"⟩ ∈ AW := aw_of2 (i := 119) rfl rfl
theorem aw_434 : Cond.fieldLink "java/lang/Throwable" 198 "java/lang/Throwable" "backtrace" "Ljava/lang/Object;" ∈ AW := aw_of2 (i := 130) rfl rfl
theorem aw_436 : Cond.instanceMethod ⟨"java/lang/Throwable", "<init>", "()V"⟩ ∈ AW := aw_of2 (i := 132) rfl rfl
theorem aw_437 : Cond.code ⟨"java/lang/Throwable", "<init>", "()V"⟩ prog_22_method_1_code 1 (none : Option Jvm.ClassFile.FieldType) ∈ AW := aw_of2 (i := 133) rfl rfl
theorem aw_438 : Cond.methodLink "java/lang/Throwable" 1 ⟨"java/lang/Object", "<init>", "()V"⟩ ∈ AW := aw_of2 (i := 134) rfl rfl
theorem aw_439 : Cond.fieldLink "java/lang/Throwable" 13 "java/lang/Throwable" "UNASSIGNED_STACK" "[Ljava/lang/StackTraceElement;" ∈ AW := aw_of2 (i := 135) rfl rfl
theorem aw_441 : Cond.fieldLink "java/lang/Throwable" 20 "java/lang/Throwable" "SUPPRESSED_SENTINEL" "Ljava/util/List;" ∈ AW := aw_of2 (i := 137) rfl rfl
theorem aw_443 : Cond.methodLink "java/lang/Throwable" 27 ⟨"java/lang/Throwable", "fillInStackTrace", "()Ljava/lang/Throwable;"⟩ ∈ AW := aw_of2 (i := 139) rfl rfl
theorem aw_444 : Cond.instanceMethod ⟨"java/lang/Throwable", "fillInStackTrace", "()Ljava/lang/Throwable;"⟩ ∈ AW := aw_of2 (i := 140) rfl rfl
theorem aw_446 : Cond.selects "java/lang/IllegalStateException" ⟨"java/lang/Throwable", "fillInStackTrace", "()Ljava/lang/Throwable;"⟩ ⟨"java/lang/Throwable", "fillInStackTrace", "()Ljava/lang/Throwable;"⟩ ∈ AW := aw_of2 (i := 142) rfl rfl
theorem aw_447 : Cond.selects "java/lang/IndexOutOfBoundsException" ⟨"java/lang/Throwable", "fillInStackTrace", "()Ljava/lang/Throwable;"⟩ ⟨"java/lang/Throwable", "fillInStackTrace", "()Ljava/lang/Throwable;"⟩ ∈ AW := aw_of2 (i := 143) rfl rfl
theorem aw_449 : Cond.methodLink "java/lang/Throwable" 202 ⟨"java/lang/Throwable", "fillInStackTrace", "(I)Ljava/lang/Throwable;"⟩ ∈ AW := aw_of2 (i := 145) rfl rfl
theorem aw_451 : Cond.instanceMethod ⟨"java/lang/Throwable", "fillInStackTrace", "(I)Ljava/lang/Throwable;"⟩ ∈ AW := aw_of2 (i := 147) rfl rfl
theorem aw_452 : Cond.instantiable "java/lang/Throwable" 6 ∈ AW := aw_of2 (i := 148) rfl rfl
theorem aw_453 : Cond.native ⟨"java/lang/Throwable", "fillInStackTrace", "(I)Ljava/lang/Throwable;"⟩ ∈ AW := aw_of2 (i := 149) rfl rfl
theorem aw_455 : Cond.methodLink "RejudgeHall" 299 ⟨"java/lang/IllegalArgumentException", "<init>", "(Ljava/lang/String;)V"⟩ ∈ AW := aw_of2 (i := 151) rfl rfl
theorem aw_456 : Cond.instanceMethod ⟨"java/lang/IllegalArgumentException", "<init>", "(Ljava/lang/String;)V"⟩ ∈ AW := aw_of2 (i := 152) rfl rfl
theorem aw_457 : Cond.code ⟨"java/lang/IllegalArgumentException", "<init>", "(Ljava/lang/String;)V"⟩ prog_14_method_2_code 2 (none : Option Jvm.ClassFile.FieldType) ∈ AW := aw_of2 (i := 153) rfl rfl
theorem aw_458 : Cond.methodLink "java/lang/IllegalArgumentException" 7 ⟨"java/lang/RuntimeException", "<init>", "(Ljava/lang/String;)V"⟩ ∈ AW := aw_of2 (i := 154) rfl rfl
theorem aw_459 : Cond.instanceMethod ⟨"java/lang/RuntimeException", "<init>", "(Ljava/lang/String;)V"⟩ ∈ AW := aw_of2 (i := 155) rfl rfl
theorem aw_460 : Cond.code ⟨"java/lang/RuntimeException", "<init>", "(Ljava/lang/String;)V"⟩ prog_19_method_2_code 2 (none : Option Jvm.ClassFile.FieldType) ∈ AW := aw_of2 (i := 156) rfl rfl
theorem aw_461 : Cond.methodLink "java/lang/RuntimeException" 7 ⟨"java/lang/Exception", "<init>", "(Ljava/lang/String;)V"⟩ ∈ AW := aw_of2 (i := 157) rfl rfl
theorem aw_462 : Cond.instanceMethod ⟨"java/lang/Exception", "<init>", "(Ljava/lang/String;)V"⟩ ∈ AW := aw_of2 (i := 158) rfl rfl
theorem aw_463 : Cond.code ⟨"java/lang/Exception", "<init>", "(Ljava/lang/String;)V"⟩ prog_13_method_2_code 2 (none : Option Jvm.ClassFile.FieldType) ∈ AW := aw_of2 (i := 159) rfl rfl
theorem aw_464 : Cond.methodLink "java/lang/Exception" 7 ⟨"java/lang/Throwable", "<init>", "(Ljava/lang/String;)V"⟩ ∈ AW := aw_of2 (i := 160) rfl rfl
theorem aw_465 : Cond.instanceMethod ⟨"java/lang/Throwable", "<init>", "(Ljava/lang/String;)V"⟩ ∈ AW := aw_of2 (i := 161) rfl rfl
theorem aw_466 : Cond.code ⟨"java/lang/Throwable", "<init>", "(Ljava/lang/String;)V"⟩ prog_22_method_2_code 2 (none : Option Jvm.ClassFile.FieldType) ∈ AW := aw_of2 (i := 162) rfl rfl
theorem aw_467 : Cond.fieldLink "java/lang/Throwable" 198 "java/lang/Throwable" "backtrace" "Ljava/lang/Object;" ∈ AW := aw_of2 (i := 163) rfl rfl
theorem aw_468 : Cond.fieldLink "java/lang/Throwable" 31 "java/lang/Throwable" "detailMessage" "Ljava/lang/String;" ∈ AW := aw_of2 (i := 164) rfl rfl
theorem aw_469 : Cond.fieldLink "java/lang/Throwable" 7 "java/lang/Throwable" "cause" "Ljava/lang/Throwable;" ∈ AW := aw_of2 (i := 165) rfl rfl
theorem aw_470 : Cond.fieldLink "java/lang/Throwable" 17 "java/lang/Throwable" "stackTrace" "[Ljava/lang/StackTraceElement;" ∈ AW := aw_of2 (i := 166) rfl rfl
theorem aw_471 : Cond.fieldLink "java/lang/Throwable" 24 "java/lang/Throwable" "suppressedExceptions" "Ljava/util/List;" ∈ AW := aw_of2 (i := 167) rfl rfl
theorem aw_480 : Cond.arrayClass .byte ∈ AW := aw_of2 (i := 176) rfl rfl
theorem aw_481 : Cond.classLink "RejudgeHall" 75 "java/lang/IllegalStateException" ∈ AW := aw_of2 (i := 177) rfl rfl
theorem aw_482 : Cond.instantiable "java/lang/IllegalStateException" 6 ∈ AW := aw_of2 (i := 178) rfl rfl
theorem aw_483 : Cond.castable "java/lang/IllegalStateException" "java/lang/IllegalStateException" ∈ AW := aw_of2 (i := 179) rfl rfl
theorem aw_484 : Cond.selects "java/lang/IllegalStateException" ⟨"java/lang/Throwable", "fillInStackTrace", "(I)Ljava/lang/Throwable;"⟩ ⟨"java/lang/Throwable", "fillInStackTrace", "(I)Ljava/lang/Throwable;"⟩ ∈ AW := aw_of2 (i := 180) rfl rfl
theorem aw_491 : Cond.methodLink "RejudgeHall" 79 ⟨"java/lang/IllegalStateException", "<init>", "(Ljava/lang/String;)V"⟩ ∈ AW := aw_of2 (i := 187) rfl rfl
theorem aw_492 : Cond.instanceMethod ⟨"java/lang/IllegalStateException", "<init>", "(Ljava/lang/String;)V"⟩ ∈ AW := aw_of2 (i := 188) rfl rfl
theorem aw_493 : Cond.code ⟨"java/lang/IllegalStateException", "<init>", "(Ljava/lang/String;)V"⟩ prog_15_method_2_code 2 (none : Option Jvm.ClassFile.FieldType) ∈ AW := aw_of2 (i := 189) rfl rfl
theorem aw_494 : Cond.methodLink "java/lang/IllegalStateException" 7 ⟨"java/lang/RuntimeException", "<init>", "(Ljava/lang/String;)V"⟩ ∈ AW := aw_of2 (i := 190) rfl rfl
theorem aw_497 : Cond.methodLinkNest "RejudgeHall" 82 yX3_append "RejudgeHall" ∈ AW := aw_of2 (i := 193) rfl rfl
theorem aw_499 : Cond.instanceMethod yX3_append ∈ AW := aw_of2 (i := 195) rfl rfl
theorem aw_500 : Cond.code yX3_append prog_5_method_2_code 3 (none : Option Jvm.ClassFile.FieldType) ∈ AW := aw_of2 (i := 196) rfl rfl
theorem aw_501 : Cond.methodLink "RejudgeHallLaw" 86 yL_input ∈ AW := aw_of2 (i := 197) rfl rfl
theorem aw_502 : Cond.static yL_input ∈ AW := aw_of2 (i := 198) rfl rfl
theorem aw_503 : Cond.codeWith yL_input method_4_code 4 (some .int) [(0, 9, 12, 13), (0, 9, 15, 15)] ∈ AW := aw_of2 (i := 199) rfl rfl
theorem aw_504 : Cond.methodLink "RejudgeHallLaw" 17 yX7_input ∈ AW := aw_of2 (i := 200) rfl rfl
theorem aw_505 : Cond.instanceMethod yX7_input ∈ AW := aw_of2 (i := 201) rfl rfl
theorem aw_506 : Cond.selects "RejudgeHall" yX7_input yX7_input ∈ AW := aw_of2 (i := 202) rfl rfl
theorem aw_507 : Cond.code yX7_input prog_1_method_3_code 2 (some .int) ∈ AW := aw_of2 (i := 203) rfl rfl
theorem aw_509 : Cond.methodLinkNest "RejudgeHall" 89 yX4_push "RejudgeHall" ∈ AW := aw_of2 (i := 205) rfl rfl
theorem aw_510 : Cond.methodLink "RejudgeHallLaw" 94 yL_run ∈ AW := aw_of2 (i := 206) rfl rfl
theorem aw_511 : Cond.static yL_run ∈ AW := aw_of2 (i := 207) rfl rfl
theorem aw_512 : Cond.codeWith yL_run method_5_code 5 (some .int) [(0, 10, 13, 13)] ∈ AW := aw_of2 (i := 208) rfl rfl
theorem aw_513 : Cond.methodLink "RejudgeHallLaw" 21 yX7_run ∈ AW := aw_of2 (i := 209) rfl rfl
theorem aw_514 : Cond.instanceMethod yX7_run ∈ AW := aw_of2 (i := 210) rfl rfl
theorem aw_515 : Cond.selects "RejudgeHall" yX7_run yX7_run ∈ AW := aw_of2 (i := 211) rfl rfl
theorem aw_516 : Cond.code yX7_run prog_1_method_5_code 4 (some .int) ∈ AW := aw_of2 (i := 212) rfl rfl
theorem aw_517 : Cond.methodLinkNest "RejudgeHall" 103 yX4_at "RejudgeHall" ∈ AW := aw_of2 (i := 213) rfl rfl
theorem aw_518 : Cond.methodLink "RejudgeHallLaw" 97 yL_problem ∈ AW := aw_of2 (i := 214) rfl rfl
theorem aw_519 : Cond.static yL_problem ∈ AW := aw_of2 (i := 215) rfl rfl
theorem aw_520 : Cond.codeWith yL_problem method_6_code 5 (some .int) [(0, 10, 13, 13), (0, 10, 17, 15)] ∈ AW := aw_of2 (i := 216) rfl rfl
theorem aw_521 : Cond.methodLink "RejudgeHallLaw" 24 yX7_problem ∈ AW := aw_of2 (i := 217) rfl rfl
theorem aw_522 : Cond.instanceMethod yX7_problem ∈ AW := aw_of2 (i := 218) rfl rfl
theorem aw_523 : Cond.selects "RejudgeHall" yX7_problem yX7_problem ∈ AW := aw_of2 (i := 219) rfl rfl
theorem aw_524 : Cond.code yX7_problem prog_1_method_6_code 4 (some .int) ∈ AW := aw_of2 (i := 220) rfl rfl
theorem aw_526 : Cond.classLink "RejudgeHall" 113 "RejudgeHall$Problem" ∈ AW := aw_of2 (i := 222) rfl rfl
theorem aw_527 : Cond.methodLinkNest "RejudgeHall" 115 yX2_init "RejudgeHall" ∈ AW := aw_of2 (i := 223) rfl rfl
theorem aw_528 : Cond.instanceMethod yX2_init ∈ AW := aw_of2 (i := 224) rfl rfl
theorem aw_529 : Cond.code yX2_init prog_4_method_1_code 4 (none : Option Jvm.ClassFile.FieldType) ∈ AW := aw_of2 (i := 225) rfl rfl
theorem aw_530 : Cond.methodLink "RejudgeHall$Problem" 3 ⟨"java/lang/Object", "<init>", "()V"⟩ ∈ AW := aw_of2 (i := 226) rfl rfl
theorem aw_531 : Cond.classLink "RejudgeHall$Problem" 9 "RejudgeHall$Program" ∈ AW := aw_of2 (i := 227) rfl rfl
theorem aw_532 : Cond.methodLinkNest "RejudgeHall$Problem" 11 yX3_init "RejudgeHall" ∈ AW := aw_of2 (i := 228) rfl rfl
theorem aw_533 : Cond.classLink "RejudgeHall$Problem" 18 "java/util/ArrayList" ∈ AW := aw_of2 (i := 229) rfl rfl
theorem aw_534 : Cond.methodLink "RejudgeHall$Problem" 20 yJx4a65c_init_da8c8 ∈ AW := aw_of2 (i := 230) rfl rfl
theorem aw_535 : Cond.methodLink "RejudgeHall$Problem" 42 yJ7_fill_53178 ∈ AW := aw_of2 (i := 231) rfl rfl
theorem aw_536 : Cond.fieldLink "RejudgeHall$Problem" 33 "RejudgeHall$Problem" "number" "I" ∈ AW := aw_of2 (i := 232) rfl rfl
theorem aw_537 : Cond.fieldLinkNest "RejudgeHall$Standings" 44 "RejudgeHall$Problem" "number" "I" "RejudgeHall" ∈ AW := aw_of2 (i := 233) rfl rfl
theorem aw_538 : Cond.fieldLinkNest "RejudgeHall" 128 "RejudgeHall$Problem" "number" "I" "RejudgeHall" ∈ AW := aw_of2 (i := 234) rfl rfl
theorem aw_539 : Cond.fieldLink "RejudgeHall$Problem" 36 "RejudgeHall$Problem" "limit" "I" ∈ AW := aw_of2 (i := 235) rfl rfl
theorem aw_540 : Cond.fieldLinkNest "RejudgeHall" 309 "RejudgeHall$Problem" "limit" "I" "RejudgeHall" ∈ AW := aw_of2 (i := 236) rfl rfl
theorem aw_541 : Cond.fieldLink "RejudgeHall$Problem" 12 "RejudgeHall$Problem" "solution" "LRejudgeHall$Program;" ∈ AW := aw_of2 (i := 237) rfl rfl
theorem aw_542 : Cond.fieldLinkNest "RejudgeHall" 117 "RejudgeHall$Problem" "solution" "LRejudgeHall$Program;" "RejudgeHall" ∈ AW := aw_of2 (i := 238) rfl rfl
theorem aw_543 : Cond.fieldLink "RejudgeHall$Problem" 21 "RejudgeHall$Problem" "trials" "Ljava/util/ArrayList;" ∈ AW := aw_of2 (i := 239) rfl rfl
theorem aw_544 : Cond.fieldLinkNest "RejudgeHall" 138 "RejudgeHall$Problem" "trials" "Ljava/util/ArrayList;" "RejudgeHall" ∈ AW := aw_of3 (i := 0) rfl rfl
theorem aw_545 : Cond.fieldLink "RejudgeHall$Problem" 25 "RejudgeHall$Problem" "points" "[I" ∈ AW := aw_of3 (i := 1) rfl rfl
theorem aw_546 : Cond.fieldLinkNest "RejudgeHall" 158 "RejudgeHall$Problem" "points" "[I" "RejudgeHall" ∈ AW := aw_of3 (i := 2) rfl rfl
theorem aw_547 : Cond.fieldLink "RejudgeHall$Problem" 39 "RejudgeHall$Problem" "checker" "I" ∈ AW := aw_of3 (i := 3) rfl rfl
theorem aw_548 : Cond.fieldLinkNest "RejudgeHall" 171 "RejudgeHall$Problem" "checker" "I" "RejudgeHall" ∈ AW := aw_of3 (i := 4) rfl rfl
theorem aw_549 : Cond.fieldLink "RejudgeHall$Problem" 29 "RejudgeHall$Problem" "version" "I" ∈ AW := aw_of3 (i := 5) rfl rfl
theorem aw_550 : Cond.fieldLinkNest "RejudgeHall" 174 "RejudgeHall$Problem" "version" "I" "RejudgeHall" ∈ AW := aw_of3 (i := 6) rfl rfl
theorem aw_566 : Cond.methodLinkNest "RejudgeHall" 120 yX3_takeFrom "RejudgeHall" ∈ AW := aw_of3 (i := 22) rfl rfl
theorem aw_568 : Cond.instanceMethod yX3_takeFrom ∈ AW := aw_of3 (i := 24) rfl rfl
theorem aw_569 : Cond.code yX3_takeFrom prog_5_method_3_code 2 (none : Option Jvm.ClassFile.FieldType) ∈ AW := aw_of3 (i := 25) rfl rfl
theorem aw_570 : Cond.methodLink "RejudgeHall$Program" 22 ⟨"java/lang/System", "arraycopy", "(Ljava/lang/Object;ILjava/lang/Object;II)V"⟩ ∈ AW := aw_of3 (i := 26) rfl rfl
theorem aw_571 : Cond.static ⟨"java/lang/System", "arraycopy", "(Ljava/lang/Object;ILjava/lang/Object;II)V"⟩ ∈ AW := aw_of3 (i := 27) rfl rfl
theorem aw_572 : Cond.native ⟨"java/lang/System", "arraycopy", "(Ljava/lang/Object;ILjava/lang/Object;II)V"⟩ ∈ AW := aw_of3 (i := 28) rfl rfl
theorem aw_573 : Cond.methodLink "RejudgeHall" 124 yJx4a65c_add_9ea2d ∈ AW := aw_of3 (i := 29) rfl rfl
theorem aw_574 : Cond.instanceMethod yJx4a65c_add_9ea2d ∈ AW := aw_of3 (i := 30) rfl rfl
theorem aw_575 : Cond.selects "java/util/ArrayList" yJx4a65c_add_9ea2d yJx4a65c_add_9ea2d ∈ AW := aw_of3 (i := 31) rfl rfl
theorem aw_576 : Cond.code yJx4a65c_add_9ea2d prog_25_method_25_code 2 (some .boolean) ∈ AW := aw_of3 (i := 32) rfl rfl
theorem aw_577 : Cond.methodLink "java/util/ArrayList" 131 yJx4a65c_add_72be8 ∈ AW := aw_of3 (i := 33) rfl rfl
theorem aw_579 : Cond.instanceMethod yJx4a65c_add_72be8 ∈ AW := aw_of3 (i := 35) rfl rfl
theorem aw_580 : Cond.code yJx4a65c_add_72be8 prog_25_method_24_code 4 (none : Option Jvm.ClassFile.FieldType) ∈ AW := aw_of3 (i := 36) rfl rfl
theorem aw_581 : Cond.methodLink "java/util/ArrayList" 129 yJx4a65c_grow_d5877 ∈ AW := aw_of3 (i := 37) rfl rfl
theorem aw_583 : Cond.instanceMethod yJx4a65c_grow_d5877 ∈ AW := aw_of3 (i := 39) rfl rfl
theorem aw_584 : Cond.code yJx4a65c_grow_d5877 prog_25_method_7_code 1 (some (.array (.object "java/lang/Object"))) ∈ AW := aw_of3 (i := 40) rfl rfl
theorem aw_585 : Cond.methodLink "java/util/ArrayList" 69 yJx4a65c_grow_92f84 ∈ AW := aw_of3 (i := 41) rfl rfl
theorem aw_587 : Cond.instanceMethod yJx4a65c_grow_92f84 ∈ AW := aw_of3 (i := 43) rfl rfl
theorem aw_588 : Cond.code yJx4a65c_grow_92f84 prog_25_method_6_code 4 (some (.array (.object "java/lang/Object"))) ∈ AW := aw_of3 (i := 44) rfl rfl
theorem aw_589 : Cond.methodLink "java/util/ArrayList" 73 yJ8_newLength_cabcc ∈ AW := aw_of3 (i := 45) rfl rfl
theorem aw_590 : Cond.static yJ8_newLength_cabcc ∈ AW := aw_of3 (i := 46) rfl rfl
theorem aw_591 : Cond.code yJ8_newLength_cabcc prog_32_method_27_code 4 (some .int) ∈ AW := aw_of3 (i := 47) rfl rfl
theorem aw_592 : Cond.methodLink "jdk/internal/util/ArraysSupport" 194 yJ9_max_7cf53 ∈ AW := aw_of3 (i := 48) rfl rfl
theorem aw_593 : Cond.constant "jdk/internal/util/ArraysSupport" 200 (2147483639 : Int32) ∈ AW := aw_of3 (i := 49) rfl rfl
theorem aw_594 : Cond.methodLink "jdk/internal/util/ArraysSupport" 201 yJ8_hugeLength_7cf53 ∈ AW := aw_of3 (i := 50) rfl rfl
theorem aw_595 : Cond.static yJ8_hugeLength_7cf53 ∈ AW := aw_of3 (i := 51) rfl rfl
theorem aw_596 : Cond.code yJ8_hugeLength_7cf53 prog_32_method_28_code 3 (some .int) ∈ AW := aw_of3 (i := 52) rfl rfl
theorem aw_597 : Cond.methodLink "java/util/ArrayList" 66 yJ7_copyOf_1904c ∈ AW := aw_of3 (i := 53) rfl rfl
theorem aw_598 : Cond.static yJ7_copyOf_1904c ∈ AW := aw_of3 (i := 54) rfl rfl
theorem aw_599 : Cond.code yJ7_copyOf_1904c prog_26_method_119_code 2 (some (.array (.object "java/lang/Object"))) ∈ AW := aw_of3 (i := 55) rfl rfl
theorem aw_600 : Cond.methodLink "java/util/Arrays" 86 ⟨"java/lang/Object", "getClass", "()Ljava/lang/Class;"⟩ ∈ AW := aw_of3 (i := 56) rfl rfl
theorem aw_601 : Cond.instanceMethod ⟨"java/lang/Object", "getClass", "()Ljava/lang/Class;"⟩ ∈ AW := aw_of3 (i := 57) rfl rfl
theorem aw_603 : Cond.selects "RejudgeHall" ⟨"java/lang/Object", "getClass", "()Ljava/lang/Class;"⟩ ⟨"java/lang/Object", "getClass", "()Ljava/lang/Class;"⟩ ∈ AW := aw_of3 (i := 59) rfl rfl
theorem aw_604 : Cond.selects "RejudgeHall$Entry" ⟨"java/lang/Object", "getClass", "()Ljava/lang/Class;"⟩ ⟨"java/lang/Object", "getClass", "()Ljava/lang/Class;"⟩ ∈ AW := aw_of3 (i := 60) rfl rfl
theorem aw_605 : Cond.selects "RejudgeHall$Machine" ⟨"java/lang/Object", "getClass", "()Ljava/lang/Class;"⟩ ⟨"java/lang/Object", "getClass", "()Ljava/lang/Class;"⟩ ∈ AW := aw_of3 (i := 61) rfl rfl
theorem aw_606 : Cond.selects "RejudgeHall$Problem" ⟨"java/lang/Object", "getClass", "()Ljava/lang/Class;"⟩ ⟨"java/lang/Object", "getClass", "()Ljava/lang/Class;"⟩ ∈ AW := aw_of3 (i := 62) rfl rfl
theorem aw_607 : Cond.selects "RejudgeHall$Program" ⟨"java/lang/Object", "getClass", "()Ljava/lang/Class;"⟩ ⟨"java/lang/Object", "getClass", "()Ljava/lang/Class;"⟩ ∈ AW := aw_of3 (i := 63) rfl rfl
theorem aw_608 : Cond.selects "RejudgeHall$Row" ⟨"java/lang/Object", "getClass", "()Ljava/lang/Class;"⟩ ⟨"java/lang/Object", "getClass", "()Ljava/lang/Class;"⟩ ∈ AW := aw_of3 (i := 64) rfl rfl
theorem aw_609 : Cond.selects "RejudgeHall$Standings" ⟨"java/lang/Object", "getClass", "()Ljava/lang/Class;"⟩ ⟨"java/lang/Object", "getClass", "()Ljava/lang/Class;"⟩ ∈ AW := aw_of3 (i := 65) rfl rfl
theorem aw_610 : Cond.selects "RejudgeHall$Trial" ⟨"java/lang/Object", "getClass", "()Ljava/lang/Class;"⟩ ⟨"java/lang/Object", "getClass", "()Ljava/lang/Class;"⟩ ∈ AW := aw_of3 (i := 66) rfl rfl
theorem aw_611 : Cond.selects "RejudgeHallModel" ⟨"java/lang/Object", "getClass", "()Ljava/lang/Class;"⟩ ⟨"java/lang/Object", "getClass", "()Ljava/lang/Class;"⟩ ∈ AW := aw_of3 (i := 67) rfl rfl
theorem aw_612 : Cond.selects "java/lang/IllegalArgumentException" ⟨"java/lang/Object", "getClass", "()Ljava/lang/Class;"⟩ ⟨"java/lang/Object", "getClass", "()Ljava/lang/Class;"⟩ ∈ AW := aw_of3 (i := 68) rfl rfl
theorem aw_613 : Cond.selects "java/lang/IllegalStateException" ⟨"java/lang/Object", "getClass", "()Ljava/lang/Class;"⟩ ⟨"java/lang/Object", "getClass", "()Ljava/lang/Class;"⟩ ∈ AW := aw_of3 (i := 69) rfl rfl
theorem aw_614 : Cond.selects "java/lang/IndexOutOfBoundsException" ⟨"java/lang/Object", "getClass", "()Ljava/lang/Class;"⟩ ⟨"java/lang/Object", "getClass", "()Ljava/lang/Class;"⟩ ∈ AW := aw_of3 (i := 70) rfl rfl
theorem aw_615 : Cond.selects "java/util/ArrayList" ⟨"java/lang/Object", "getClass", "()Ljava/lang/Class;"⟩ ⟨"java/lang/Object", "getClass", "()Ljava/lang/Class;"⟩ ∈ AW := aw_of3 (i := 71) rfl rfl
theorem aw_616 : Cond.native ⟨"java/lang/Object", "getClass", "()Ljava/lang/Class;"⟩ ∈ AW := aw_of3 (i := 72) rfl rfl
theorem aw_617 : Cond.methodLink "java/util/Arrays" 300 yJ7_copyOf_6403c ∈ AW := aw_of3 (i := 73) rfl rfl
theorem aw_618 : Cond.static yJ7_copyOf_6403c ∈ AW := aw_of3 (i := 74) rfl rfl
theorem aw_619 : Cond.code yJ7_copyOf_6403c prog_26_method_120_code 4 (some (.array (.object "java/lang/Object"))) ∈ AW := aw_of3 (i := 75) rfl rfl
theorem aw_620 : Cond.classLink "java/util/Arrays" 110 "[Ljava/lang/Object;" ∈ AW := aw_of3 (i := 76) rfl rfl
theorem aw_622 : Cond.classLink "java/util/Arrays" 2 "java/lang/Object" ∈ AW := aw_of3 (i := 78) rfl rfl
theorem aw_623 : Cond.methodLink "java/util/Arrays" 304 yJ9_min_7cf53 ∈ AW := aw_of3 (i := 79) rfl rfl
theorem aw_624 : Cond.methodLink "java/util/Arrays" 150 ⟨"java/lang/System", "arraycopy", "(Ljava/lang/Object;ILjava/lang/Object;II)V"⟩ ∈ AW := aw_of3 (i := 80) rfl rfl
theorem aw_625 : Cond.methodLink "java/util/ArrayList" 79 yJ9_max_7cf53 ∈ AW := aw_of3 (i := 81) rfl rfl
theorem aw_626 : Cond.classLink "java/util/ArrayList" 7 "java/lang/Object" ∈ AW := aw_of3 (i := 82) rfl rfl
theorem aw_627 : Cond.methodLink "RejudgeHallLaw" 100 yL_test ∈ AW := aw_of3 (i := 83) rfl rfl
theorem aw_628 : Cond.static yL_test ∈ AW := aw_of3 (i := 84) rfl rfl
theorem aw_629 : Cond.codeWith yL_test method_7_code 5 (some .int) [(0, 10, 13, 30), (0, 10, 17, 15)] ∈ AW := aw_of3 (i := 85) rfl rfl
theorem aw_630 : Cond.classLink "RejudgeHallLaw" 30 "java/lang/IndexOutOfBoundsException" ∈ AW := aw_of3 (i := 86) rfl rfl
theorem aw_631 : Cond.methodLink "RejudgeHallLaw" 27 yX7_test ∈ AW := aw_of3 (i := 87) rfl rfl
theorem aw_632 : Cond.instanceMethod yX7_test ∈ AW := aw_of3 (i := 88) rfl rfl
theorem aw_633 : Cond.selects "RejudgeHall" yX7_test yX7_test ∈ AW := aw_of3 (i := 89) rfl rfl
theorem aw_634 : Cond.code yX7_test prog_1_method_7_code 4 (some .int) ∈ AW := aw_of3 (i := 90) rfl rfl
theorem aw_635 : Cond.methodLink "RejudgeHall" 131 yX7_problemAt ∈ AW := aw_of3 (i := 91) rfl rfl
theorem aw_637 : Cond.instanceMethod yX7_problemAt ∈ AW := aw_of3 (i := 93) rfl rfl
theorem aw_638 : Cond.code yX7_problemAt prog_1_method_24_code 2 (some (.object "RejudgeHall$Problem")) ∈ AW := aw_of3 (i := 94) rfl rfl
theorem aw_639 : Cond.methodLink "RejudgeHall" 135 yX7_needIndex ∈ AW := aw_of3 (i := 95) rfl rfl
theorem aw_640 : Cond.static yX7_needIndex ∈ AW := aw_of3 (i := 96) rfl rfl
theorem aw_641 : Cond.code yX7_needIndex prog_1_method_23_code 2 (none : Option Jvm.ClassFile.FieldType) ∈ AW := aw_of3 (i := 97) rfl rfl
theorem aw_642 : Cond.classLink "RejudgeHall" 177 "java/lang/IndexOutOfBoundsException" ∈ AW := aw_of3 (i := 98) rfl rfl
theorem aw_643 : Cond.instantiable "java/lang/IndexOutOfBoundsException" 6 ∈ AW := aw_of3 (i := 99) rfl rfl
theorem aw_644 : Cond.castable "java/lang/IndexOutOfBoundsException" "java/lang/IndexOutOfBoundsException" ∈ AW := aw_of3 (i := 100) rfl rfl
theorem aw_645 : Cond.selects "java/lang/IndexOutOfBoundsException" ⟨"java/lang/Throwable", "fillInStackTrace", "(I)Ljava/lang/Throwable;"⟩ ⟨"java/lang/Throwable", "fillInStackTrace", "(I)Ljava/lang/Throwable;"⟩ ∈ AW := aw_of3 (i := 101) rfl rfl
theorem aw_652 : Cond.methodLink "RejudgeHall" 181 ⟨"java/lang/IndexOutOfBoundsException", "<init>", "(Ljava/lang/String;)V"⟩ ∈ AW := aw_of3 (i := 108) rfl rfl
theorem aw_653 : Cond.instanceMethod ⟨"java/lang/IndexOutOfBoundsException", "<init>", "(Ljava/lang/String;)V"⟩ ∈ AW := aw_of3 (i := 109) rfl rfl
theorem aw_654 : Cond.code ⟨"java/lang/IndexOutOfBoundsException", "<init>", "(Ljava/lang/String;)V"⟩ prog_16_method_2_code 2 (none : Option Jvm.ClassFile.FieldType) ∈ AW := aw_of3 (i := 110) rfl rfl
theorem aw_655 : Cond.methodLink "java/lang/IndexOutOfBoundsException" 7 ⟨"java/lang/RuntimeException", "<init>", "(Ljava/lang/String;)V"⟩ ∈ AW := aw_of3 (i := 111) rfl rfl
theorem aw_659 : Cond.methodLink "RejudgeHall" 143 yX7_findsAnswer ∈ AW := aw_of3 (i := 115) rfl rfl
theorem aw_661 : Cond.instanceMethod yX7_findsAnswer ∈ AW := aw_of3 (i := 117) rfl rfl
theorem aw_662 : Cond.code yX7_findsAnswer prog_1_method_26_code 3 (some .boolean) ∈ AW := aw_of3 (i := 118) rfl rfl
theorem aw_664 : Cond.instantiable "RejudgeHall$Trial" 3 ∈ AW := aw_of3 (i := 120) rfl rfl
theorem aw_665 : Cond.methodLinkNest "RejudgeHall" 151 yX6_init "RejudgeHall" ∈ AW := aw_of3 (i := 121) rfl rfl
theorem aw_666 : Cond.instanceMethod yX6_init ∈ AW := aw_of3 (i := 122) rfl rfl
theorem aw_667 : Cond.code yX6_init prog_8_method_1_code 4 (none : Option Jvm.ClassFile.FieldType) ∈ AW := aw_of3 (i := 123) rfl rfl
theorem aw_668 : Cond.methodLink "RejudgeHall$Trial" 1 ⟨"java/lang/Object", "<init>", "()V"⟩ ∈ AW := aw_of3 (i := 124) rfl rfl
theorem aw_669 : Cond.classLink "RejudgeHall$Trial" 7 "RejudgeHall$Row" ∈ AW := aw_of3 (i := 125) rfl rfl
theorem aw_670 : Cond.methodLinkNest "RejudgeHall$Trial" 9 yX4_init "RejudgeHall" ∈ AW := aw_of3 (i := 126) rfl rfl
theorem aw_671 : Cond.methodLinkNest "RejudgeHall$Trial" 19 yX4_copyFrom "RejudgeHall" ∈ AW := aw_of3 (i := 127) rfl rfl
theorem aw_673 : Cond.instanceMethod yX4_copyFrom ∈ AW := aw_of3 (i := 129) rfl rfl
theorem aw_674 : Cond.code yX4_copyFrom prog_6_method_6_code 2 (none : Option Jvm.ClassFile.FieldType) ∈ AW := aw_of3 (i := 130) rfl rfl
theorem aw_675 : Cond.methodLink "RejudgeHall$Row" 19 ⟨"java/lang/System", "arraycopy", "(Ljava/lang/Object;ILjava/lang/Object;II)V"⟩ ∈ AW := aw_of3 (i := 131) rfl rfl
theorem aw_676 : Cond.fieldLink "RejudgeHall$Trial" 10 "RejudgeHall$Trial" "input" "LRejudgeHall$Row;" ∈ AW := aw_of3 (i := 132) rfl rfl
theorem aw_677 : Cond.fieldLinkNest "RejudgeHall" 302 "RejudgeHall$Trial" "input" "LRejudgeHall$Row;" "RejudgeHall" ∈ AW := aw_of3 (i := 133) rfl rfl
theorem aw_678 : Cond.fieldLink "RejudgeHall$Trial" 16 "RejudgeHall$Trial" "answer" "LRejudgeHall$Row;" ∈ AW := aw_of3 (i := 134) rfl rfl
theorem aw_679 : Cond.fieldLinkNest "RejudgeHall" 186 "RejudgeHall$Trial" "answer" "LRejudgeHall$Row;" "RejudgeHall" ∈ AW := aw_of3 (i := 135) rfl rfl
theorem aw_680 : Cond.fieldLink "RejudgeHall$Trial" 23 "RejudgeHall$Trial" "group" "I" ∈ AW := aw_of3 (i := 136) rfl rfl
theorem aw_681 : Cond.fieldLinkNest "RejudgeHall" 316 "RejudgeHall$Trial" "group" "I" "RejudgeHall" ∈ AW := aw_of3 (i := 137) rfl rfl
theorem aw_689 : Cond.methodLinkNest "RejudgeHall" 154 yX2_addTrial "RejudgeHall" ∈ AW := aw_of3 (i := 145) rfl rfl
theorem aw_691 : Cond.instanceMethod yX2_addTrial ∈ AW := aw_of3 (i := 147) rfl rfl
theorem aw_692 : Cond.code yX2_addTrial prog_4_method_2_code 2 (none : Option Jvm.ClassFile.FieldType) ∈ AW := aw_of3 (i := 148) rfl rfl
theorem aw_693 : Cond.methodLink "RejudgeHall$Problem" 48 yJx4a65c_add_9ea2d ∈ AW := aw_of3 (i := 149) rfl rfl
theorem aw_694 : Cond.methodLink "RejudgeHallLaw" 103 yL_points ∈ AW := aw_of3 (i := 150) rfl rfl
theorem aw_695 : Cond.static yL_points ∈ AW := aw_of3 (i := 151) rfl rfl
theorem aw_696 : Cond.codeWith yL_points method_8_code 6 (some .int) [(0, 12, 15, 30), (0, 12, 19, 13)] ∈ AW := aw_of3 (i := 152) rfl rfl
theorem aw_697 : Cond.methodLink "RejudgeHallLaw" 32 yX7_points ∈ AW := aw_of3 (i := 153) rfl rfl
theorem aw_698 : Cond.instanceMethod yX7_points ∈ AW := aw_of3 (i := 154) rfl rfl
theorem aw_699 : Cond.selects "RejudgeHall" yX7_points yX7_points ∈ AW := aw_of3 (i := 155) rfl rfl
theorem aw_700 : Cond.code yX7_points prog_1_method_8_code 6 (some .int) ∈ AW := aw_of3 (i := 156) rfl rfl
theorem aw_701 : Cond.methodLink "RejudgeHallLaw" 107 yL_mend ∈ AW := aw_of3 (i := 157) rfl rfl
theorem aw_702 : Cond.static yL_mend ∈ AW := aw_of3 (i := 158) rfl rfl
theorem aw_703 : Cond.codeWith yL_mend method_9_code 5 (some .int) [(0, 10, 13, 30), (0, 10, 17, 13), (0, 10, 21, 15)] ∈ AW := aw_of3 (i := 159) rfl rfl
theorem aw_704 : Cond.methodLink "RejudgeHallLaw" 36 yX7_mend ∈ AW := aw_of3 (i := 160) rfl rfl
theorem aw_705 : Cond.instanceMethod yX7_mend ∈ AW := aw_of3 (i := 161) rfl rfl
theorem aw_706 : Cond.selects "RejudgeHall" yX7_mend yX7_mend ∈ AW := aw_of3 (i := 162) rfl rfl
theorem aw_707 : Cond.code yX7_mend prog_1_method_9_code 4 (some .int) ∈ AW := aw_of3 (i := 163) rfl rfl
theorem aw_708 : Cond.methodLink "RejudgeHall" 161 yX7_findsAllAnswers ∈ AW := aw_of3 (i := 164) rfl rfl
theorem aw_710 : Cond.instanceMethod yX7_findsAllAnswers ∈ AW := aw_of3 (i := 166) rfl rfl
theorem aw_711 : Cond.code yX7_findsAllAnswers prog_1_method_27_code 4 (some .boolean) ∈ AW := aw_of3 (i := 167) rfl rfl
theorem aw_713 : Cond.methodLink "RejudgeHall" 167 yX7_renewAnswers ∈ AW := aw_of3 (i := 169) rfl rfl
theorem aw_715 : Cond.instanceMethod yX7_renewAnswers ∈ AW := aw_of3 (i := 171) rfl rfl
theorem aw_716 : Cond.code yX7_renewAnswers prog_1_method_28_code 4 (none : Option Jvm.ClassFile.FieldType) ∈ AW := aw_of3 (i := 172) rfl rfl
theorem aw_717 : Cond.methodLinkNest "RejudgeHall" 305 yX4_copyFrom "RejudgeHall" ∈ AW := aw_of3 (i := 173) rfl rfl
theorem aw_718 : Cond.methodLink "RejudgeHallLaw" 110 yL_answer ∈ AW := aw_of3 (i := 174) rfl rfl
theorem aw_719 : Cond.static yL_answer ∈ AW := aw_of3 (i := 175) rfl rfl
theorem aw_720 : Cond.codeWith yL_answer method_10_code 6 (some .int) [(0, 12, 15, 30)] ∈ AW := aw_of3 (i := 176) rfl rfl
theorem aw_721 : Cond.methodLink "RejudgeHallLaw" 39 yX7_answer ∈ AW := aw_of3 (i := 177) rfl rfl
theorem aw_722 : Cond.instanceMethod yX7_answer ∈ AW := aw_of3 (i := 178) rfl rfl
theorem aw_723 : Cond.selects "RejudgeHall" yX7_answer yX7_answer ∈ AW := aw_of3 (i := 179) rfl rfl
theorem aw_724 : Cond.code yX7_answer prog_1_method_10_code 5 (some .int) ∈ AW := aw_of3 (i := 180) rfl rfl
theorem aw_726 : Cond.methodLink "RejudgeHallLaw" 113 yL_enter ∈ AW := aw_of3 (i := 182) rfl rfl
theorem aw_727 : Cond.static yL_enter ∈ AW := aw_of3 (i := 183) rfl rfl
theorem aw_728 : Cond.codeWith yL_enter method_11_code 5 (some .int) [(0, 10, 13, 30), (0, 10, 17, 15)] ∈ AW := aw_of3 (i := 184) rfl rfl
theorem aw_729 : Cond.methodLink "RejudgeHallLaw" 42 yX7_enter ∈ AW := aw_of3 (i := 185) rfl rfl
theorem aw_730 : Cond.instanceMethod yX7_enter ∈ AW := aw_of3 (i := 186) rfl rfl
theorem aw_731 : Cond.selects "RejudgeHall" yX7_enter yX7_enter ∈ AW := aw_of3 (i := 187) rfl rfl
theorem aw_732 : Cond.code yX7_enter prog_1_method_11_code 5 (some .int) ∈ AW := aw_of3 (i := 188) rfl rfl
theorem aw_734 : Cond.methodLinkNest "RejudgeHall" 193 yX0_init "RejudgeHall" ∈ AW := aw_of3 (i := 190) rfl rfl
theorem aw_735 : Cond.instanceMethod yX0_init ∈ AW := aw_of3 (i := 191) rfl rfl
theorem aw_736 : Cond.code yX0_init prog_2_method_1_code 4 (none : Option Jvm.ClassFile.FieldType) ∈ AW := aw_of3 (i := 192) rfl rfl
theorem aw_737 : Cond.methodLink "RejudgeHall$Entry" 3 ⟨"java/lang/Object", "<init>", "()V"⟩ ∈ AW := aw_of3 (i := 193) rfl rfl
theorem aw_738 : Cond.classLink "RejudgeHall$Entry" 9 "RejudgeHall$Program" ∈ AW := aw_of3 (i := 194) rfl rfl
theorem aw_739 : Cond.methodLinkNest "RejudgeHall$Entry" 11 yX3_init "RejudgeHall" ∈ AW := aw_of3 (i := 195) rfl rfl
theorem aw_740 : Cond.fieldLink "RejudgeHall$Entry" 31 "RejudgeHall$Entry" "team" "I" ∈ AW := aw_of3 (i := 196) rfl rfl
theorem aw_741 : Cond.fieldLinkNest "RejudgeHall$Standings" 34 "RejudgeHall$Entry" "team" "I" "RejudgeHall" ∈ AW := aw_of3 (i := 197) rfl rfl
theorem aw_742 : Cond.fieldLinkNest "RejudgeHall" 205 "RejudgeHall$Entry" "team" "I" "RejudgeHall" ∈ AW := aw_of3 (i := 198) rfl rfl
theorem aw_743 : Cond.fieldLink "RejudgeHall$Entry" 34 "RejudgeHall$Entry" "problem" "LRejudgeHall$Problem;" ∈ AW := aw_of3 (i := 199) rfl rfl
theorem aw_744 : Cond.fieldLinkNest "RejudgeHall$Standings" 40 "RejudgeHall$Entry" "problem" "LRejudgeHall$Problem;" "RejudgeHall" ∈ AW := aw_of3 (i := 200) rfl rfl
theorem aw_745 : Cond.fieldLinkNest "RejudgeHall" 212 "RejudgeHall$Entry" "problem" "LRejudgeHall$Problem;" "RejudgeHall" ∈ AW := aw_of3 (i := 201) rfl rfl
theorem aw_746 : Cond.fieldLink "RejudgeHall$Entry" 38 "RejudgeHall$Entry" "minute" "I" ∈ AW := aw_of3 (i := 202) rfl rfl
theorem aw_747 : Cond.fieldLinkNest "RejudgeHall$Standings" 53 "RejudgeHall$Entry" "minute" "I" "RejudgeHall" ∈ AW := aw_of3 (i := 203) rfl rfl
theorem aw_748 : Cond.fieldLinkNest "RejudgeHall" 233 "RejudgeHall$Entry" "minute" "I" "RejudgeHall" ∈ AW := aw_of3 (i := 204) rfl rfl
theorem aw_749 : Cond.fieldLink "RejudgeHall$Entry" 12 "RejudgeHall$Entry" "program" "LRejudgeHall$Program;" ∈ AW := aw_of3 (i := 205) rfl rfl
theorem aw_750 : Cond.fieldLinkNest "RejudgeHall" 196 "RejudgeHall$Entry" "program" "LRejudgeHall$Program;" "RejudgeHall" ∈ AW := aw_of3 (i := 206) rfl rfl
theorem aw_751 : Cond.fieldLink "RejudgeHall$Entry" 18 "RejudgeHall$Entry" "verdict" "I" ∈ AW := aw_of3 (i := 207) rfl rfl
theorem aw_752 : Cond.fieldLinkNest "RejudgeHall" 224 "RejudgeHall$Entry" "verdict" "I" "RejudgeHall" ∈ AW := aw_of3 (i := 208) rfl rfl
theorem aw_753 : Cond.fieldLink "RejudgeHall$Entry" 22 "RejudgeHall$Entry" "failedTest" "I" ∈ AW := aw_of3 (i := 209) rfl rfl
theorem aw_754 : Cond.fieldLinkNest "RejudgeHall" 227 "RejudgeHall$Entry" "failedTest" "I" "RejudgeHall" ∈ AW := aw_of3 (i := 210) rfl rfl
theorem aw_755 : Cond.fieldLink "RejudgeHall$Entry" 25 "RejudgeHall$Entry" "score" "I" ∈ AW := aw_of3 (i := 211) rfl rfl
theorem aw_756 : Cond.fieldLinkNest "RejudgeHall" 230 "RejudgeHall$Entry" "score" "I" "RejudgeHall" ∈ AW := aw_of3 (i := 212) rfl rfl
theorem aw_757 : Cond.fieldLink "RejudgeHall$Entry" 28 "RejudgeHall$Entry" "version" "I" ∈ AW := aw_of3 (i := 213) rfl rfl
theorem aw_758 : Cond.fieldLinkNest "RejudgeHall" 216 "RejudgeHall$Entry" "version" "I" "RejudgeHall" ∈ AW := aw_of3 (i := 214) rfl rfl
theorem aw_776 : Cond.methodLink "RejudgeHallLaw" 116 yL_pass ∈ AW := aw_of3 (i := 232) rfl rfl
theorem aw_777 : Cond.static yL_pass ∈ AW := aw_of3 (i := 233) rfl rfl
theorem aw_778 : Cond.codeWith yL_pass method_12_code 4 (some .int) [(0, 9, 12, 13), (0, 9, 15, 15)] ∈ AW := aw_of3 (i := 234) rfl rfl
theorem aw_779 : Cond.methodLink "RejudgeHallLaw" 45 yX7_pass ∈ AW := aw_of3 (i := 235) rfl rfl
theorem aw_780 : Cond.instanceMethod yX7_pass ∈ AW := aw_of3 (i := 236) rfl rfl
theorem aw_781 : Cond.selects "RejudgeHall" yX7_pass yX7_pass ∈ AW := aw_of3 (i := 237) rfl rfl
theorem aw_782 : Cond.code yX7_pass prog_1_method_12_code 2 (some .int) ∈ AW := aw_of3 (i := 238) rfl rfl
theorem aw_784 : Cond.methodLink "RejudgeHallLaw" 123 yL_rejudge ∈ AW := aw_of4 (i := 0) rfl rfl
theorem aw_785 : Cond.static yL_rejudge ∈ AW := aw_of4 (i := 1) rfl rfl
theorem aw_786 : Cond.codeWith yL_rejudge method_13_code 4 (some .int) [(0, 9, 12, 30)] ∈ AW := aw_of4 (i := 2) rfl rfl
theorem aw_787 : Cond.methodLink "RejudgeHallLaw" 48 yX7_rejudge ∈ AW := aw_of4 (i := 3) rfl rfl
theorem aw_788 : Cond.instanceMethod yX7_rejudge ∈ AW := aw_of4 (i := 4) rfl rfl
theorem aw_789 : Cond.selects "RejudgeHall" yX7_rejudge yX7_rejudge ∈ AW := aw_of4 (i := 5) rfl rfl
theorem aw_790 : Cond.code yX7_rejudge prog_1_method_14_code 6 (some .int) ∈ AW := aw_of4 (i := 6) rfl rfl
theorem aw_791 : Cond.methodLinkNest "RejudgeHall" 217 yX0_letWait "RejudgeHall" ∈ AW := aw_of4 (i := 7) rfl rfl
theorem aw_793 : Cond.instanceMethod yX0_letWait ∈ AW := aw_of4 (i := 9) rfl rfl
theorem aw_794 : Cond.code yX0_letWait prog_2_method_3_code 1 (none : Option Jvm.ClassFile.FieldType) ∈ AW := aw_of4 (i := 10) rfl rfl
theorem aw_795 : Cond.methodLink "RejudgeHallLaw" 126 yL_entry ∈ AW := aw_of4 (i := 11) rfl rfl
theorem aw_796 : Cond.static yL_entry ∈ AW := aw_of4 (i := 12) rfl rfl
theorem aw_797 : Cond.codeWith yL_entry method_14_code 5 (some .int) [(0, 10, 13, 30), (0, 10, 17, 13)] ∈ AW := aw_of4 (i := 13) rfl rfl
theorem aw_798 : Cond.methodLink "RejudgeHallLaw" 51 yX7_entry ∈ AW := aw_of4 (i := 14) rfl rfl
theorem aw_799 : Cond.instanceMethod yX7_entry ∈ AW := aw_of4 (i := 15) rfl rfl
theorem aw_800 : Cond.selects "RejudgeHall" yX7_entry yX7_entry ∈ AW := aw_of4 (i := 16) rfl rfl
theorem aw_801 : Cond.code yX7_entry prog_1_method_15_code 4 (some .int) ∈ AW := aw_of4 (i := 17) rfl rfl
theorem aw_802 : Cond.methodLink "RejudgeHall" 220 yX7_entryAt ∈ AW := aw_of4 (i := 18) rfl rfl
theorem aw_804 : Cond.instanceMethod yX7_entryAt ∈ AW := aw_of4 (i := 20) rfl rfl
theorem aw_805 : Cond.code yX7_entryAt prog_1_method_25_code 2 (some (.object "RejudgeHall$Entry")) ∈ AW := aw_of4 (i := 21) rfl rfl
theorem aw_806 : Cond.methodLink "RejudgeHallLaw" 129 yL_likeness ∈ AW := aw_of4 (i := 22) rfl rfl
theorem aw_807 : Cond.static yL_likeness ∈ AW := aw_of4 (i := 23) rfl rfl
theorem aw_808 : Cond.codeWith yL_likeness method_15_code 5 (some .int) [(0, 10, 13, 30)] ∈ AW := aw_of4 (i := 24) rfl rfl
theorem aw_809 : Cond.methodLink "RejudgeHallLaw" 54 yX7_likeness ∈ AW := aw_of4 (i := 25) rfl rfl
theorem aw_810 : Cond.instanceMethod yX7_likeness ∈ AW := aw_of4 (i := 26) rfl rfl
theorem aw_811 : Cond.selects "RejudgeHall" yX7_likeness yX7_likeness ∈ AW := aw_of4 (i := 27) rfl rfl
theorem aw_812 : Cond.code yX7_likeness prog_1_method_16_code 6 (some .int) ∈ AW := aw_of4 (i := 28) rfl rfl
theorem aw_813 : Cond.methodLink "RejudgeHall" 234 yJ9_max_7cf53 ∈ AW := aw_of4 (i := 29) rfl rfl
theorem aw_814 : Cond.methodLink "RejudgeHall" 240 yX7_longestCommon ∈ AW := aw_of4 (i := 30) rfl rfl
theorem aw_816 : Cond.instanceMethod yX7_longestCommon ∈ AW := aw_of4 (i := 32) rfl rfl
theorem aw_817 : Cond.code yX7_longestCommon prog_1_method_33_code 7 (some .int) ∈ AW := aw_of4 (i := 33) rfl rfl
theorem aw_818 : Cond.methodLink "RejudgeHall" 322 yJ7_fill_53178 ∈ AW := aw_of4 (i := 34) rfl rfl
theorem aw_819 : Cond.methodLinkNest "RejudgeHall" 328 yX3_isAlikeAt "RejudgeHall" ∈ AW := aw_of4 (i := 35) rfl rfl
theorem aw_821 : Cond.instanceMethod yX3_isAlikeAt ∈ AW := aw_of4 (i := 37) rfl rfl
theorem aw_822 : Cond.code yX3_isAlikeAt prog_5_method_5_code 5 (some .boolean) ∈ AW := aw_of4 (i := 38) rfl rfl
theorem aw_823 : Cond.methodLink "RejudgeHall$Program" 28 yX3_has ∈ AW := aw_of4 (i := 39) rfl rfl
theorem aw_824 : Cond.methodLink "RejudgeHallLaw" 132 yL_freeze ∈ AW := aw_of4 (i := 40) rfl rfl
theorem aw_825 : Cond.static yL_freeze ∈ AW := aw_of4 (i := 41) rfl rfl
theorem aw_826 : Cond.codeWith yL_freeze method_16_code 3 (some .int) [(0, 5, 8, 13)] ∈ AW := aw_of4 (i := 42) rfl rfl
theorem aw_827 : Cond.methodLink "RejudgeHallLaw" 57 yX7_freeze ∈ AW := aw_of4 (i := 43) rfl rfl
theorem aw_828 : Cond.instanceMethod yX7_freeze ∈ AW := aw_of4 (i := 44) rfl rfl
theorem aw_829 : Cond.selects "RejudgeHall" yX7_freeze yX7_freeze ∈ AW := aw_of4 (i := 45) rfl rfl
theorem aw_830 : Cond.code yX7_freeze prog_1_method_17_code 3 (none : Option Jvm.ClassFile.FieldType) ∈ AW := aw_of4 (i := 46) rfl rfl
theorem aw_831 : Cond.methodLink "RejudgeHallLaw" 140 yL_board ∈ AW := aw_of4 (i := 47) rfl rfl
theorem aw_832 : Cond.static yL_board ∈ AW := aw_of4 (i := 48) rfl rfl
theorem aw_833 : Cond.codeWith yL_board method_17_code 6 (some .int) [(0, 12, 15, 30), (0, 12, 19, 13)] ∈ AW := aw_of4 (i := 49) rfl rfl
theorem aw_834 : Cond.methodLink "RejudgeHallLaw" 61 yX7_board ∈ AW := aw_of4 (i := 50) rfl rfl
theorem aw_835 : Cond.instanceMethod yX7_board ∈ AW := aw_of4 (i := 51) rfl rfl
theorem aw_836 : Cond.selects "RejudgeHall" yX7_board yX7_board ∈ AW := aw_of4 (i := 52) rfl rfl
theorem aw_837 : Cond.code yX7_board prog_1_method_19_code 4 (some .int) ∈ AW := aw_of4 (i := 53) rfl rfl
theorem aw_838 : Cond.methodLinkNest "RejudgeHall" 258 yX5_placeOf "RejudgeHall" ∈ AW := aw_of4 (i := 54) rfl rfl
theorem aw_840 : Cond.instanceMethod yX5_placeOf ∈ AW := aw_of4 (i := 56) rfl rfl
theorem aw_841 : Cond.code yX5_placeOf prog_7_method_5_code 4 (some .int) ∈ AW := aw_of4 (i := 57) rfl rfl
theorem aw_842 : Cond.methodLink "RejudgeHall$Standings" 61 yX5_isAhead ∈ AW := aw_of4 (i := 58) rfl rfl
theorem aw_843 : Cond.methodLink "RejudgeHallLaw" 144 yL_placeAnew ∈ AW := aw_of4 (i := 59) rfl rfl
theorem aw_844 : Cond.static yL_placeAnew ∈ AW := aw_of4 (i := 60) rfl rfl
theorem aw_845 : Cond.codeWith yL_placeAnew method_18_code 4 (some .int) [(0, 9, 12, 30)] ∈ AW := aw_of4 (i := 61) rfl rfl
theorem aw_846 : Cond.methodLink "RejudgeHallLaw" 65 yX7_placeAnew ∈ AW := aw_of4 (i := 62) rfl rfl
theorem aw_847 : Cond.instanceMethod yX7_placeAnew ∈ AW := aw_of4 (i := 63) rfl rfl
theorem aw_848 : Cond.selects "RejudgeHall" yX7_placeAnew yX7_placeAnew ∈ AW := aw_of4 (i := 64) rfl rfl
theorem aw_849 : Cond.code yX7_placeAnew prog_1_method_20_code 4 (some .int) ∈ AW := aw_of4 (i := 65) rfl rfl
theorem aw_850 : Cond.methodLink "RejudgeHall" 273 yX7_passesAll ∈ AW := aw_of4 (i := 66) rfl rfl
theorem aw_852 : Cond.instanceMethod yX7_passesAll ∈ AW := aw_of4 (i := 68) rfl rfl
theorem aw_853 : Cond.code yX7_passesAll prog_1_method_30_code 4 (some .boolean) ∈ AW := aw_of4 (i := 69) rfl rfl
theorem aw_854 : Cond.methodLink "RejudgeHallLaw" 147 yL_hack ∈ AW := aw_of4 (i := 70) rfl rfl
theorem aw_855 : Cond.static yL_hack ∈ AW := aw_of4 (i := 71) rfl rfl
theorem aw_856 : Cond.codeWith yL_hack method_19_code 5 (some .int) [(0, 17, 20, 30), (0, 17, 24, 15)] ∈ AW := aw_of4 (i := 72) rfl rfl
theorem aw_857 : Cond.methodLink "RejudgeHallLaw" 68 yX7_hack ∈ AW := aw_of4 (i := 73) rfl rfl
theorem aw_858 : Cond.instanceMethod yX7_hack ∈ AW := aw_of4 (i := 74) rfl rfl
theorem aw_859 : Cond.selects "RejudgeHall" yX7_hack yX7_hack ∈ AW := aw_of4 (i := 75) rfl rfl
theorem aw_860 : Cond.code yX7_hack prog_1_method_21_code 6 (some .boolean) ∈ AW := aw_of4 (i := 76) rfl rfl
theorem aw_861 : Cond.methodLink "RejudgeHall" 281 yX7_hasSolved ∈ AW := aw_of4 (i := 77) rfl rfl
theorem aw_863 : Cond.instanceMethod yX7_hasSolved ∈ AW := aw_of4 (i := 79) rfl rfl
theorem aw_864 : Cond.code yX7_hasSolved prog_1_method_32_code 5 (some .boolean) ∈ AW := aw_of4 (i := 80) rfl rfl
theorem aw_868 : Cond.classLink "RejudgeHallLaw" 73 "RejudgeHallModel" ∈ AW := aw_of4 (i := 84) rfl rfl
theorem aw_869 : Cond.instantiable "RejudgeHallModel" 39 ∈ AW := aw_of4 (i := 85) rfl rfl
theorem aw_870 : Cond.methodLink "RejudgeHallLaw" 75 yX8_init ∈ AW := aw_of4 (i := 86) rfl rfl
theorem aw_871 : Cond.instanceMethod yX8_init ∈ AW := aw_of4 (i := 87) rfl rfl
theorem aw_872 : Cond.code yX8_init prog_10_method_1_code 2 (none : Option Jvm.ClassFile.FieldType) ∈ AW := aw_of4 (i := 88) rfl rfl
theorem aw_873 : Cond.methodLink "RejudgeHallModel" 1 ⟨"java/lang/Object", "<init>", "()V"⟩ ∈ AW := aw_of4 (i := 89) rfl rfl
theorem aw_874 : Cond.fieldLink "RejudgeHallModel" 186 "RejudgeHallModel" "minute" "I" ∈ AW := aw_of4 (i := 90) rfl rfl
theorem aw_875 : Cond.fieldLink "RejudgeHallModel" 7 "RejudgeHallModel" "size" "[I" ∈ AW := aw_of4 (i := 91) rfl rfl
theorem aw_876 : Cond.fieldLink "RejudgeHallModel" 13 "RejudgeHallModel" "sort" "[I" ∈ AW := aw_of4 (i := 92) rfl rfl
theorem aw_877 : Cond.fieldLink "RejudgeHallModel" 16 "RejudgeHallModel" "number" "[I" ∈ AW := aw_of4 (i := 93) rfl rfl
theorem aw_878 : Cond.fieldLink "RejudgeHallModel" 19 "RejudgeHallModel" "given" "[I" ∈ AW := aw_of4 (i := 94) rfl rfl
theorem aw_879 : Cond.fieldLink "RejudgeHallModel" 22 "RejudgeHallModel" "inputs" "[I" ∈ AW := aw_of4 (i := 95) rfl rfl
theorem aw_880 : Cond.fieldLink "RejudgeHallModel" 105 "RejudgeHallModel" "problems" "I" ∈ AW := aw_of4 (i := 96) rfl rfl
theorem aw_881 : Cond.fieldLink "RejudgeHallModel" 25 "RejudgeHallModel" "limit" "[I" ∈ AW := aw_of4 (i := 97) rfl rfl
theorem aw_882 : Cond.fieldLink "RejudgeHallModel" 28 "RejudgeHallModel" "checker" "[I" ∈ AW := aw_of4 (i := 98) rfl rfl
theorem aw_883 : Cond.fieldLink "RejudgeHallModel" 31 "RejudgeHallModel" "version" "[I" ∈ AW := aw_of4 (i := 99) rfl rfl
theorem aw_884 : Cond.fieldLink "RejudgeHallModel" 34 "RejudgeHallModel" "tests" "[I" ∈ AW := aw_of4 (i := 100) rfl rfl
theorem aw_885 : Cond.fieldLink "RejudgeHallModel" 37 "RejudgeHallModel" "groupOf" "[I" ∈ AW := aw_of4 (i := 101) rfl rfl
theorem aw_886 : Cond.fieldLink "RejudgeHallModel" 40 "RejudgeHallModel" "points" "[I" ∈ AW := aw_of4 (i := 102) rfl rfl
theorem aw_887 : Cond.fieldLink "RejudgeHallModel" 112 "RejudgeHallModel" "entries" "I" ∈ AW := aw_of4 (i := 103) rfl rfl
theorem aw_888 : Cond.fieldLink "RejudgeHallModel" 43 "RejudgeHallModel" "team" "[I" ∈ AW := aw_of4 (i := 104) rfl rfl
theorem aw_889 : Cond.fieldLink "RejudgeHallModel" 46 "RejudgeHallModel" "problemOf" "[I" ∈ AW := aw_of4 (i := 105) rfl rfl
theorem aw_890 : Cond.fieldLink "RejudgeHallModel" 49 "RejudgeHallModel" "when" "[I" ∈ AW := aw_of4 (i := 106) rfl rfl
theorem aw_891 : Cond.fieldLink "RejudgeHallModel" 52 "RejudgeHallModel" "verdict" "[I" ∈ AW := aw_of4 (i := 107) rfl rfl
theorem aw_892 : Cond.fieldLink "RejudgeHallModel" 55 "RejudgeHallModel" "failed" "[I" ∈ AW := aw_of4 (i := 108) rfl rfl
theorem aw_893 : Cond.fieldLink "RejudgeHallModel" 58 "RejudgeHallModel" "score" "[I" ∈ AW := aw_of4 (i := 109) rfl rfl
theorem aw_894 : Cond.fieldLink "RejudgeHallModel" 61 "RejudgeHallModel" "judgedBy" "[I" ∈ AW := aw_of4 (i := 110) rfl rfl
theorem aw_895 : Cond.fieldLink "RejudgeHallModel" 64 "RejudgeHallModel" "judgings" "[I" ∈ AW := aw_of4 (i := 111) rfl rfl
theorem aw_896 : Cond.fieldLink "RejudgeHallModel" 67 "RejudgeHallModel" "hacks" "[I" ∈ AW := aw_of4 (i := 112) rfl rfl
theorem aw_897 : Cond.fieldLink "RejudgeHallModel" 70 "RejudgeHallModel" "frozenFrom" "I" ∈ AW := aw_of4 (i := 113) rfl rfl
theorem aw_898 : Cond.fieldLink "RejudgeHallModel" 74 "RejudgeHallModel" "revealed" "[Z" ∈ AW := aw_of4 (i := 114) rfl rfl
theorem aw_899 : Cond.fieldLink "RejudgeHallModel" 117 "RejudgeHallModel" "fails" "I" ∈ AW := aw_of4 (i := 115) rfl rfl
theorem aw_900 : Cond.fieldLink "RejudgeHallModel" 123 "RejudgeHallModel" "steps" "I" ∈ AW := aw_of4 (i := 116) rfl rfl
theorem aw_901 : Cond.fieldLink "RejudgeHallModel" 126 "RejudgeHallModel" "printed" "I" ∈ AW := aw_of4 (i := 117) rfl rfl
theorem aw_902 : Cond.fieldLink "RejudgeHallModel" 78 "RejudgeHallModel" "output" "[I" ∈ AW := aw_of4 (i := 118) rfl rfl
theorem aw_903 : Cond.fieldLink "RejudgeHallModel" 81 "RejudgeHallModel" "stack" "[I" ∈ AW := aw_of4 (i := 119) rfl rfl
theorem aw_904 : Cond.fieldLink "RejudgeHallModel" 120 "RejudgeHallModel" "pushed" "I" ∈ AW := aw_of4 (i := 120) rfl rfl
theorem aw_905 : Cond.fieldLink "RejudgeHallModel" 152 "RejudgeHallModel" "answered" "I" ∈ AW := aw_of4 (i := 121) rfl rfl
theorem aw_906 : Cond.fieldLink "RejudgeHallModel" 84 "RejudgeHallModel" "answer" "[I" ∈ AW := aw_of4 (i := 122) rfl rfl
theorem aw_907 : Cond.fieldLink "RejudgeHallModel" 87 "RejudgeHallModel" "told" "[I" ∈ AW := aw_of4 (i := 123) rfl rfl
theorem aw_908 : Cond.fieldLink "RejudgeHallModel" 90 "RejudgeHallModel" "solved" "[I" ∈ AW := aw_of4 (i := 124) rfl rfl
theorem aw_909 : Cond.fieldLink "RejudgeHallModel" 93 "RejudgeHallModel" "sum" "[I" ∈ AW := aw_of4 (i := 125) rfl rfl
theorem aw_910 : Cond.fieldLink "RejudgeHallModel" 96 "RejudgeHallModel" "latest" "[I" ∈ AW := aw_of4 (i := 126) rfl rfl
theorem aw_911 : Cond.fieldLink "RejudgeHallModel" 99 "RejudgeHallModel" "row" "[I" ∈ AW := aw_of4 (i := 127) rfl rfl
theorem aw_912 : Cond.fieldLink "RejudgeHallModel" 102 "RejudgeHallModel" "thrown" "I" ∈ AW := aw_of4 (i := 128) rfl rfl
theorem aw_992 : Cond.methodLink "RejudgeHallLaw" 82 yX8_thrown ∈ AW := aw_of4 (i := 208) rfl rfl
theorem aw_993 : Cond.instanceMethod yX8_thrown ∈ AW := aw_of4 (i := 209) rfl rfl
theorem aw_994 : Cond.selects "RejudgeHallModel" yX8_thrown yX8_thrown ∈ AW := aw_of4 (i := 210) rfl rfl
theorem aw_995 : Cond.code yX8_thrown prog_10_method_2_code 1 (some .int) ∈ AW := aw_of4 (i := 211) rfl rfl
theorem aw_996 : Cond.methodLink "RejudgeHallLaw" 81 yX8_code ∈ AW := aw_of4 (i := 212) rfl rfl
theorem aw_997 : Cond.instanceMethod yX8_code ∈ AW := aw_of4 (i := 213) rfl rfl
theorem aw_998 : Cond.selects "RejudgeHallModel" yX8_code yX8_code ∈ AW := aw_of4 (i := 214) rfl rfl
theorem aw_999 : Cond.code yX8_code prog_10_method_14_code 3 (some .int) ∈ AW := aw_of4 (i := 215) rfl rfl
theorem aw_1000 : Cond.methodLink "RejudgeHallModel" 108 yX8_isIn ∈ AW := aw_of4 (i := 216) rfl rfl
theorem aw_1001 : Cond.static yX8_isIn ∈ AW := aw_of4 (i := 217) rfl rfl
theorem aw_1002 : Cond.code yX8_isIn prog_10_method_3_code 3 (some .boolean) ∈ AW := aw_of4 (i := 218) rfl rfl
theorem aw_1003 : Cond.methodLink "RejudgeHallLaw" 89 yX8_input ∈ AW := aw_of4 (i := 219) rfl rfl
theorem aw_1004 : Cond.instanceMethod yX8_input ∈ AW := aw_of4 (i := 220) rfl rfl
theorem aw_1005 : Cond.selects "RejudgeHallModel" yX8_input yX8_input ∈ AW := aw_of4 (i := 221) rfl rfl
theorem aw_1006 : Cond.code yX8_input prog_10_method_15_code 2 (some .int) ∈ AW := aw_of4 (i := 222) rfl rfl
theorem aw_1007 : Cond.methodLink "RejudgeHallLaw" 93 yX8_clear ∈ AW := aw_of4 (i := 223) rfl rfl
theorem aw_1008 : Cond.instanceMethod yX8_clear ∈ AW := aw_of4 (i := 224) rfl rfl
theorem aw_1009 : Cond.selects "RejudgeHallModel" yX8_clear yX8_clear ∈ AW := aw_of4 (i := 225) rfl rfl
theorem aw_1010 : Cond.code yX8_clear prog_10_method_16_code 2 (some .int) ∈ AW := aw_of4 (i := 226) rfl rfl
theorem aw_1011 : Cond.methodLink "RejudgeHallModel" 145 yX8_empties ∈ AW := aw_of4 (i := 227) rfl rfl
theorem aw_1013 : Cond.instanceMethod yX8_empties ∈ AW := aw_of4 (i := 229) rfl rfl
theorem aw_1014 : Cond.code yX8_empties prog_10_method_12_code 2 (none : Option Jvm.ClassFile.FieldType) ∈ AW := aw_of4 (i := 230) rfl rfl
theorem aw_1015 : Cond.methodLink "RejudgeHallLaw" 96 yX8_run ∈ AW := aw_of4 (i := 231) rfl rfl
theorem aw_1016 : Cond.instanceMethod yX8_run ∈ AW := aw_of4 (i := 232) rfl rfl
theorem aw_1017 : Cond.selects "RejudgeHallModel" yX8_run yX8_run ∈ AW := aw_of4 (i := 233) rfl rfl
theorem aw_1018 : Cond.code yX8_run prog_10_method_17_code 3 (some .int) ∈ AW := aw_of4 (i := 234) rfl rfl
theorem aw_1019 : Cond.methodLink "RejudgeHallModel" 148 yX8_runs ∈ AW := aw_of4 (i := 235) rfl rfl
theorem aw_1021 : Cond.instanceMethod yX8_runs ∈ AW := aw_of4 (i := 237) rfl rfl
theorem aw_1022 : Cond.code yX8_runs prog_10_method_10_code 10 (none : Option Jvm.ClassFile.FieldType) ∈ AW := aw_of4 (i := 238) rfl rfl
theorem aw_1023 : Cond.methodLink "RejudgeHallModel" 129 yX8_needs ∈ AW := aw_of4 (i := 239) rfl rfl
theorem aw_1024 : Cond.static yX8_needs ∈ AW := aw_of5 (i := 0) rfl rfl
theorem aw_1025 : Cond.code yX8_needs prog_10_method_8_code 1 (some .int) ∈ AW := aw_of5 (i := 1) rfl rfl
theorem aw_1026 : Cond.methodLink "RejudgeHallModel" 133 yX8_pushes ∈ AW := aw_of5 (i := 2) rfl rfl
theorem aw_1028 : Cond.instanceMethod yX8_pushes ∈ AW := aw_of5 (i := 4) rfl rfl
theorem aw_1029 : Cond.code yX8_pushes prog_10_method_9_code 2 (none : Option Jvm.ClassFile.FieldType) ∈ AW := aw_of5 (i := 5) rfl rfl
theorem aw_1030 : Cond.constant "RejudgeHallModel" 115 (-999999 : Int32) ∈ AW := aw_of5 (i := 6) rfl rfl
theorem aw_1031 : Cond.constant "RejudgeHallModel" 116 (999999 : Int32) ∈ AW := aw_of5 (i := 7) rfl rfl
theorem aw_1032 : Cond.methodLink "RejudgeHallModel" 137 yX8_makes ∈ AW := aw_of5 (i := 8) rfl rfl
theorem aw_1034 : Cond.instanceMethod yX8_makes ∈ AW := aw_of5 (i := 10) rfl rfl
theorem aw_1035 : Cond.code yX8_makes prog_10_method_11_code 3 (none : Option Jvm.ClassFile.FieldType) ∈ AW := aw_of5 (i := 11) rfl rfl
theorem aw_1036 : Cond.constantLong "RejudgeHallModel" 141 (999999 : Int64) ∈ AW := aw_of5 (i := 12) rfl rfl
theorem aw_1037 : Cond.constantLong "RejudgeHallModel" 143 (-999999 : Int64) ∈ AW := aw_of5 (i := 13) rfl rfl
theorem aw_1038 : Cond.methodLink "RejudgeHallLaw" 99 yX8_problem ∈ AW := aw_of5 (i := 14) rfl rfl
theorem aw_1039 : Cond.instanceMethod yX8_problem ∈ AW := aw_of5 (i := 15) rfl rfl
theorem aw_1040 : Cond.selects "RejudgeHallModel" yX8_problem yX8_problem ∈ AW := aw_of5 (i := 16) rfl rfl
theorem aw_1041 : Cond.code yX8_problem prog_10_method_20_code 3 (some .int) ∈ AW := aw_of5 (i := 17) rfl rfl
theorem aw_1042 : Cond.methodLink "RejudgeHallModel" 155 yX8_isChecker ∈ AW := aw_of5 (i := 18) rfl rfl
theorem aw_1043 : Cond.static yX8_isChecker ∈ AW := aw_of5 (i := 19) rfl rfl
theorem aw_1044 : Cond.code yX8_isChecker prog_10_method_19_code 1 (some .boolean) ∈ AW := aw_of5 (i := 20) rfl rfl
theorem aw_1045 : Cond.methodLink "RejudgeHallModel" 159 yX8_copies ∈ AW := aw_of5 (i := 21) rfl rfl
theorem aw_1047 : Cond.instanceMethod yX8_copies ∈ AW := aw_of5 (i := 23) rfl rfl
theorem aw_1048 : Cond.code yX8_copies prog_10_method_13_code 4 (none : Option Jvm.ClassFile.FieldType) ∈ AW := aw_of5 (i := 24) rfl rfl
theorem aw_1049 : Cond.methodLink "RejudgeHallLaw" 102 yX8_test ∈ AW := aw_of5 (i := 25) rfl rfl
theorem aw_1050 : Cond.instanceMethod yX8_test ∈ AW := aw_of5 (i := 26) rfl rfl
theorem aw_1051 : Cond.selects "RejudgeHallModel" yX8_test yX8_test ∈ AW := aw_of5 (i := 27) rfl rfl
theorem aw_1052 : Cond.code yX8_test prog_10_method_22_code 3 (some .int) ∈ AW := aw_of5 (i := 28) rfl rfl
theorem aw_1053 : Cond.methodLink "RejudgeHallModel" 163 yX8_isProblem ∈ AW := aw_of5 (i := 29) rfl rfl
theorem aw_1055 : Cond.instanceMethod yX8_isProblem ∈ AW := aw_of5 (i := 31) rfl rfl
theorem aw_1056 : Cond.code yX8_isProblem prog_10_method_4_code 2 (some .boolean) ∈ AW := aw_of5 (i := 32) rfl rfl
theorem aw_1057 : Cond.methodLink "RejudgeHallModel" 166 yX8_isGroup ∈ AW := aw_of5 (i := 33) rfl rfl
theorem aw_1058 : Cond.static yX8_isGroup ∈ AW := aw_of5 (i := 34) rfl rfl
theorem aw_1059 : Cond.code yX8_isGroup prog_10_method_7_code 1 (some .boolean) ∈ AW := aw_of5 (i := 35) rfl rfl
theorem aw_1060 : Cond.methodLink "RejudgeHallModel" 169 yX8_answers ∈ AW := aw_of5 (i := 36) rfl rfl
theorem aw_1062 : Cond.instanceMethod yX8_answers ∈ AW := aw_of5 (i := 38) rfl rfl
theorem aw_1063 : Cond.code yX8_answers prog_10_method_18_code 4 (some .boolean) ∈ AW := aw_of5 (i := 39) rfl rfl
theorem aw_1064 : Cond.methodLink "RejudgeHallModel" 173 yX8_becomes ∈ AW := aw_of5 (i := 40) rfl rfl
theorem aw_1066 : Cond.instanceMethod yX8_becomes ∈ AW := aw_of5 (i := 42) rfl rfl
theorem aw_1067 : Cond.code yX8_becomes prog_10_method_21_code 5 (none : Option Jvm.ClassFile.FieldType) ∈ AW := aw_of5 (i := 43) rfl rfl
theorem aw_1068 : Cond.methodLink "RejudgeHallLaw" 106 yX8_points ∈ AW := aw_of5 (i := 44) rfl rfl
theorem aw_1069 : Cond.instanceMethod yX8_points ∈ AW := aw_of5 (i := 45) rfl rfl
theorem aw_1070 : Cond.selects "RejudgeHallModel" yX8_points yX8_points ∈ AW := aw_of5 (i := 46) rfl rfl
theorem aw_1071 : Cond.code yX8_points prog_10_method_23_code 5 (some .int) ∈ AW := aw_of5 (i := 47) rfl rfl
theorem aw_1072 : Cond.methodLink "RejudgeHallLaw" 109 yX8_mend ∈ AW := aw_of5 (i := 48) rfl rfl
theorem aw_1073 : Cond.instanceMethod yX8_mend ∈ AW := aw_of5 (i := 49) rfl rfl
theorem aw_1074 : Cond.selects "RejudgeHallModel" yX8_mend yX8_mend ∈ AW := aw_of5 (i := 50) rfl rfl
theorem aw_1075 : Cond.code yX8_mend prog_10_method_24_code 5 (some .int) ∈ AW := aw_of5 (i := 51) rfl rfl
theorem aw_1076 : Cond.methodLink "RejudgeHallLaw" 112 yX8_answer ∈ AW := aw_of5 (i := 52) rfl rfl
theorem aw_1077 : Cond.instanceMethod yX8_answer ∈ AW := aw_of5 (i := 53) rfl rfl
theorem aw_1078 : Cond.selects "RejudgeHallModel" yX8_answer yX8_answer ∈ AW := aw_of5 (i := 54) rfl rfl
theorem aw_1079 : Cond.code yX8_answer prog_10_method_25_code 5 (some .int) ∈ AW := aw_of5 (i := 55) rfl rfl
theorem aw_1080 : Cond.methodLink "RejudgeHallLaw" 115 yX8_enter ∈ AW := aw_of5 (i := 56) rfl rfl
theorem aw_1081 : Cond.instanceMethod yX8_enter ∈ AW := aw_of5 (i := 57) rfl rfl
theorem aw_1082 : Cond.selects "RejudgeHallModel" yX8_enter yX8_enter ∈ AW := aw_of5 (i := 58) rfl rfl
theorem aw_1083 : Cond.code yX8_enter prog_10_method_29_code 3 (some .int) ∈ AW := aw_of5 (i := 59) rfl rfl
theorem aw_1084 : Cond.methodLink "RejudgeHallModel" 183 yX8_isTeam ∈ AW := aw_of5 (i := 60) rfl rfl
theorem aw_1085 : Cond.static yX8_isTeam ∈ AW := aw_of5 (i := 61) rfl rfl
theorem aw_1086 : Cond.code yX8_isTeam prog_10_method_6_code 1 (some .boolean) ∈ AW := aw_of5 (i := 62) rfl rfl
theorem aw_1087 : Cond.methodLink "RejudgeHallLaw" 118 yX8_pass ∈ AW := aw_of5 (i := 63) rfl rfl
theorem aw_1088 : Cond.instanceMethod yX8_pass ∈ AW := aw_of5 (i := 64) rfl rfl
theorem aw_1089 : Cond.selects "RejudgeHallModel" yX8_pass yX8_pass ∈ AW := aw_of5 (i := 65) rfl rfl
theorem aw_1090 : Cond.code yX8_pass prog_10_method_30_code 2 (some .int) ∈ AW := aw_of5 (i := 66) rfl rfl
theorem aw_1091 : Cond.methodLink "RejudgeHallLaw" 122 yX8_judge ∈ AW := aw_of5 (i := 67) rfl rfl
theorem aw_1092 : Cond.instanceMethod yX8_judge ∈ AW := aw_of5 (i := 68) rfl rfl
theorem aw_1093 : Cond.selects "RejudgeHallModel" yX8_judge yX8_judge ∈ AW := aw_of5 (i := 69) rfl rfl
theorem aw_1094 : Cond.code yX8_judge prog_10_method_31_code 4 (some .int) ∈ AW := aw_of5 (i := 70) rfl rfl
theorem aw_1095 : Cond.methodLink "RejudgeHallModel" 189 yX8_judges ∈ AW := aw_of5 (i := 71) rfl rfl
theorem aw_1097 : Cond.instanceMethod yX8_judges ∈ AW := aw_of5 (i := 73) rfl rfl
theorem aw_1098 : Cond.code yX8_judges prog_10_method_28_code 7 (none : Option Jvm.ClassFile.FieldType) ∈ AW := aw_of5 (i := 74) rfl rfl
theorem aw_1099 : Cond.methodLink "RejudgeHallModel" 176 yX8_does ∈ AW := aw_of5 (i := 75) rfl rfl
theorem aw_1101 : Cond.instanceMethod yX8_does ∈ AW := aw_of5 (i := 77) rfl rfl
theorem aw_1102 : Cond.code yX8_does prog_10_method_26_code 8 (some .int) ∈ AW := aw_of5 (i := 78) rfl rfl
theorem aw_1103 : Cond.methodLink "RejudgeHallModel" 180 yX8_firstFailed ∈ AW := aw_of5 (i := 79) rfl rfl
theorem aw_1105 : Cond.instanceMethod yX8_firstFailed ∈ AW := aw_of5 (i := 81) rfl rfl
theorem aw_1106 : Cond.code yX8_firstFailed prog_10_method_27_code 4 (some .int) ∈ AW := aw_of5 (i := 82) rfl rfl
theorem aw_1107 : Cond.methodLink "RejudgeHallLaw" 125 yX8_rejudge ∈ AW := aw_of5 (i := 83) rfl rfl
theorem aw_1108 : Cond.instanceMethod yX8_rejudge ∈ AW := aw_of5 (i := 84) rfl rfl
theorem aw_1109 : Cond.selects "RejudgeHallModel" yX8_rejudge yX8_rejudge ∈ AW := aw_of5 (i := 85) rfl rfl
theorem aw_1110 : Cond.code yX8_rejudge prog_10_method_32_code 4 (some .int) ∈ AW := aw_of5 (i := 86) rfl rfl
theorem aw_1111 : Cond.methodLink "RejudgeHallLaw" 128 yX8_entry ∈ AW := aw_of5 (i := 87) rfl rfl
theorem aw_1112 : Cond.instanceMethod yX8_entry ∈ AW := aw_of5 (i := 88) rfl rfl
theorem aw_1113 : Cond.selects "RejudgeHallModel" yX8_entry yX8_entry ∈ AW := aw_of5 (i := 89) rfl rfl
theorem aw_1114 : Cond.code yX8_entry prog_10_method_33_code 4 (some .int) ∈ AW := aw_of5 (i := 90) rfl rfl
theorem aw_1115 : Cond.methodLink "RejudgeHallModel" 192 yX8_isEntry ∈ AW := aw_of5 (i := 91) rfl rfl
theorem aw_1117 : Cond.instanceMethod yX8_isEntry ∈ AW := aw_of5 (i := 93) rfl rfl
theorem aw_1118 : Cond.code yX8_isEntry prog_10_method_5_code 2 (some .boolean) ∈ AW := aw_of5 (i := 94) rfl rfl
theorem aw_1119 : Cond.methodLink "RejudgeHallLaw" 131 yX8_likeness ∈ AW := aw_of5 (i := 95) rfl rfl
theorem aw_1120 : Cond.instanceMethod yX8_likeness ∈ AW := aw_of5 (i := 96) rfl rfl
theorem aw_1121 : Cond.selects "RejudgeHallModel" yX8_likeness yX8_likeness ∈ AW := aw_of5 (i := 97) rfl rfl
theorem aw_1122 : Cond.code yX8_likeness prog_10_method_35_code 11 (some .int) ∈ AW := aw_of5 (i := 98) rfl rfl
theorem aw_1123 : Cond.methodLink "RejudgeHallModel" 195 yX8_areAlike ∈ AW := aw_of5 (i := 99) rfl rfl
theorem aw_1125 : Cond.instanceMethod yX8_areAlike ∈ AW := aw_of5 (i := 101) rfl rfl
theorem aw_1126 : Cond.code yX8_areAlike prog_10_method_34_code 4 (some .boolean) ∈ AW := aw_of5 (i := 102) rfl rfl
theorem aw_1127 : Cond.methodLink "RejudgeHallLaw" 135 yX8_freeze ∈ AW := aw_of5 (i := 103) rfl rfl
theorem aw_1128 : Cond.instanceMethod yX8_freeze ∈ AW := aw_of5 (i := 104) rfl rfl
theorem aw_1129 : Cond.selects "RejudgeHallModel" yX8_freeze yX8_freeze ∈ AW := aw_of5 (i := 105) rfl rfl
theorem aw_1130 : Cond.code yX8_freeze prog_10_method_42_code 3 (none : Option Jvm.ClassFile.FieldType) ∈ AW := aw_of5 (i := 106) rfl rfl
theorem aw_1131 : Cond.methodLink "RejudgeHallLaw" 139 yX8_reveal ∈ AW := aw_of5 (i := 107) rfl rfl
theorem aw_1132 : Cond.instanceMethod yX8_reveal ∈ AW := aw_of5 (i := 108) rfl rfl
theorem aw_1133 : Cond.selects "RejudgeHallModel" yX8_reveal yX8_reveal ∈ AW := aw_of5 (i := 109) rfl rfl
theorem aw_1134 : Cond.code yX8_reveal prog_10_method_44_code 4 (some .int) ∈ AW := aw_of5 (i := 110) rfl rfl
theorem aw_1135 : Cond.methodLink "RejudgeHallModel" 211 yX8_tells ∈ AW := aw_of5 (i := 111) rfl rfl
theorem aw_1137 : Cond.instanceMethod yX8_tells ∈ AW := aw_of5 (i := 113) rfl rfl
theorem aw_1138 : Cond.code yX8_tells prog_10_method_39_code 4 (none : Option Jvm.ClassFile.FieldType) ∈ AW := aw_of5 (i := 114) rfl rfl
theorem aw_1139 : Cond.methodLink "RejudgeHallModel" 202 yX8_isLate ∈ AW := aw_of5 (i := 115) rfl rfl
theorem aw_1141 : Cond.instanceMethod yX8_isLate ∈ AW := aw_of5 (i := 117) rfl rfl
theorem aw_1142 : Cond.code yX8_isLate prog_10_method_36_code 2 (some .boolean) ∈ AW := aw_of5 (i := 118) rfl rfl
theorem aw_1143 : Cond.methodLink "RejudgeHallModel" 205 yX8_boards ∈ AW := aw_of5 (i := 119) rfl rfl
theorem aw_1145 : Cond.instanceMethod yX8_boards ∈ AW := aw_of5 (i := 121) rfl rfl
theorem aw_1146 : Cond.code yX8_boards prog_10_method_38_code 5 (none : Option Jvm.ClassFile.FieldType) ∈ AW := aw_of5 (i := 122) rfl rfl
theorem aw_1147 : Cond.methodLink "RejudgeHallModel" 198 yX8_counts ∈ AW := aw_of5 (i := 123) rfl rfl
theorem aw_1149 : Cond.instanceMethod yX8_counts ∈ AW := aw_of5 (i := 125) rfl rfl
theorem aw_1150 : Cond.code yX8_counts prog_10_method_37_code 4 (some .int) ∈ AW := aw_of5 (i := 126) rfl rfl
theorem aw_1151 : Cond.methodLink "RejudgeHallModel" 215 yX8_toReveal ∈ AW := aw_of5 (i := 127) rfl rfl
theorem aw_1153 : Cond.instanceMethod yX8_toReveal ∈ AW := aw_of5 (i := 129) rfl rfl
theorem aw_1154 : Cond.code yX8_toReveal prog_10_method_43_code 5 (some .int) ∈ AW := aw_of5 (i := 130) rfl rfl
theorem aw_1155 : Cond.methodLink "RejudgeHallModel" 208 yX8_isAhead ∈ AW := aw_of5 (i := 131) rfl rfl
theorem aw_1157 : Cond.instanceMethod yX8_isAhead ∈ AW := aw_of5 (i := 133) rfl rfl
theorem aw_1158 : Cond.code yX8_isAhead prog_10_method_40_code 3 (some .boolean) ∈ AW := aw_of5 (i := 134) rfl rfl
theorem aw_1159 : Cond.methodLink "RejudgeHallLaw" 143 yX8_board ∈ AW := aw_of5 (i := 135) rfl rfl
theorem aw_1160 : Cond.instanceMethod yX8_board ∈ AW := aw_of5 (i := 136) rfl rfl
theorem aw_1161 : Cond.selects "RejudgeHallModel" yX8_board yX8_board ∈ AW := aw_of5 (i := 137) rfl rfl
theorem aw_1162 : Cond.code yX8_board prog_10_method_45_code 4 (some .int) ∈ AW := aw_of5 (i := 138) rfl rfl
theorem aw_1163 : Cond.methodLink "RejudgeHallModel" 218 yX8_placeOf ∈ AW := aw_of5 (i := 139) rfl rfl
theorem aw_1165 : Cond.instanceMethod yX8_placeOf ∈ AW := aw_of5 (i := 141) rfl rfl
theorem aw_1166 : Cond.code yX8_placeOf prog_10_method_41_code 4 (some .int) ∈ AW := aw_of5 (i := 142) rfl rfl
theorem aw_1167 : Cond.methodLink "RejudgeHallLaw" 146 yX8_placeAnew ∈ AW := aw_of5 (i := 143) rfl rfl
theorem aw_1168 : Cond.instanceMethod yX8_placeAnew ∈ AW := aw_of5 (i := 144) rfl rfl
theorem aw_1169 : Cond.selects "RejudgeHallModel" yX8_placeAnew yX8_placeAnew ∈ AW := aw_of5 (i := 145) rfl rfl
theorem aw_1170 : Cond.code yX8_placeAnew prog_10_method_46_code 3 (some .int) ∈ AW := aw_of5 (i := 146) rfl rfl
theorem aw_1171 : Cond.methodLink "RejudgeHallLaw" 149 yX8_hack ∈ AW := aw_of5 (i := 147) rfl rfl
theorem aw_1172 : Cond.instanceMethod yX8_hack ∈ AW := aw_of5 (i := 148) rfl rfl
theorem aw_1173 : Cond.selects "RejudgeHallModel" yX8_hack yX8_hack ∈ AW := aw_of5 (i := 149) rfl rfl
theorem aw_1174 : Cond.code yX8_hack prog_10_method_47_code 6 (some .boolean) ∈ AW := aw_of5 (i := 150) rfl rfl
theorem aw_1175 : Cond.arrayClass .long ∈ AW := aw_of5 (i := 151) rfl rfl
theorem aw_1177 : Cond.castable "RejudgeHall" "java/lang/Object" ∈ AW := aw_of5 (i := 153) rfl rfl
theorem aw_1178 : Cond.castable "RejudgeHall$Program" "java/lang/Object" ∈ AW := aw_of5 (i := 154) rfl rfl
theorem aw_1179 : Cond.castable "RejudgeHall$Row" "java/lang/Object" ∈ AW := aw_of5 (i := 155) rfl rfl
theorem aw_1180 : Cond.castable "RejudgeHall$Machine" "java/lang/Object" ∈ AW := aw_of5 (i := 156) rfl rfl
theorem aw_1181 : Cond.castable "java/util/ArrayList" "java/lang/Object" ∈ AW := aw_of5 (i := 157) rfl rfl
theorem aw_1182 : Cond.castable "RejudgeHall$Standings" "java/lang/Object" ∈ AW := aw_of5 (i := 158) rfl rfl
theorem aw_1183 : Cond.castable "RejudgeHallModel" "java/lang/Object" ∈ AW := aw_of5 (i := 159) rfl rfl
theorem aw_1184 : Cond.castable "java/lang/IllegalArgumentException" "java/lang/Object" ∈ AW := aw_of5 (i := 160) rfl rfl
theorem aw_1185 : Cond.castable "java/lang/IllegalStateException" "java/lang/Object" ∈ AW := aw_of5 (i := 161) rfl rfl
theorem aw_1186 : Cond.castable "RejudgeHall$Problem" "java/lang/Object" ∈ AW := aw_of5 (i := 162) rfl rfl
theorem aw_1187 : Cond.castable "java/lang/IndexOutOfBoundsException" "java/lang/Object" ∈ AW := aw_of5 (i := 163) rfl rfl
theorem aw_1188 : Cond.castable "RejudgeHall$Trial" "java/lang/Object" ∈ AW := aw_of5 (i := 164) rfl rfl
theorem aw_1189 : Cond.castable "RejudgeHall$Entry" "java/lang/Object" ∈ AW := aw_of5 (i := 165) rfl rfl
theorem aw_1190 : Cond.castable "java/lang/Throwable" "java/lang/Object" ∈ AW := aw_of5 (i := 166) rfl rfl
theorem aw_1191 : Cond.castable "java/lang/String" "java/lang/Object" ∈ AW := aw_of5 (i := 167) rfl rfl
theorem aw_1193 : Cond.selects "[Ljava/lang/Object;" ⟨"java/lang/Object", "getClass", "()Ljava/lang/Class;"⟩ ⟨"java/lang/Object", "getClass", "()Ljava/lang/Class;"⟩ ∈ AW := aw_of5 (i := 169) rfl rfl
theorem aw_1194 : Cond.declares ⟨"java/lang/Object", "getClass", "()Ljava/lang/Class;"⟩ ∈ AW := aw_of5 (i := 170) rfl rfl
theorem aw_1195 : Cond.castable "[I" "java/lang/Object" ∈ AW := aw_of5 (i := 171) rfl rfl
theorem aw_1196 : Cond.castable "[Z" "java/lang/Object" ∈ AW := aw_of5 (i := 172) rfl rfl
theorem aw_1197 : Cond.castable "[B" "java/lang/Object" ∈ AW := aw_of5 (i := 173) rfl rfl
theorem aw_1198 : Cond.castable "[Ljava/lang/Object;" "java/lang/Object" ∈ AW := aw_of5 (i := 174) rfl rfl
theorem aw_1199 : Cond.castable "[J" "java/lang/Object" ∈ AW := aw_of5 (i := 175) rfl rfl
theorem aw_list {ws : List Cond} (is : List Nat) (h : ws = is.filterMap (fun i => lw_tbl[i]?)) (hm : ws.all mvW = true) : ∀ w ∈ ws, w ∈ AW := by
  intro w hw
  have h1 := List.all_eq_true.mp hm w hw
  rw [h] at hw
  obtain ⟨i, -, hi⟩ := List.mem_filterMap.mp hw
  exact aw_of hi h1
theorem ck_0 : Cls 0 RJx4a65c TJx4a65c tyJx4a65c := ⟨rfl, aw_list [182, 178, 180] (by decide +kernel) rfl, tyJx4a65c_ok, nmJx4a65c⟩
theorem ck_1 : Cls 1 RX0 TX0 tyX0 := ⟨rfl, aw_list [759, 761, 763, 765, 767, 769, 771, 773] (by decide +kernel) rfl, tyX0_ok, nmX0⟩
theorem ck_2 : Cls 2 RX1 TX1 tyX1 := ⟨rfl, aw_list [148, 150, 152, 154, 156] (by decide +kernel) rfl, tyX1_ok, nmX1⟩
theorem ck_3 : Cls 3 RX2 TX2 tyX2 := ⟨rfl, aw_list [551, 553, 555, 557, 559, 561, 563] (by decide +kernel) rfl, tyX2_ok, nmX2⟩
theorem ck_4 : Cls 4 RX3 TX3 tyX3 := ⟨rfl, aw_list [110, 112, 114] (by decide +kernel) rfl, tyX3_ok, nmX3⟩
theorem ck_5 : Cls 5 RX4 TX4 tyX4 := ⟨rfl, aw_list [128, 130] (by decide +kernel) rfl, tyX4_ok, nmX4⟩
theorem ck_6 : Cls 6 RX5 TX5 tyX5 := ⟨rfl, aw_list [199, 201, 203, 205, 207] (by decide +kernel) rfl, tyX5_ok, nmX5⟩
theorem ck_7 : Cls 7 RX6 TX6 tyX6 := ⟨rfl, aw_list [682, 684, 686] (by decide +kernel) rfl, tyX6_ok, nmX6⟩
theorem ck_8 : Cls 8 RX7 TX7 tyX7 := ⟨rfl, aw_list [223, 225, 227, 229, 231, 233, 235, 237, 239, 241, 243, 245] (by decide +kernel) rfl, tyX7_ok, nmX7⟩
theorem ck_9 : Cls 9 RX8 TX8 tyX8 := ⟨rfl, aw_list [913, 915, 917, 919, 921, 923, 925, 927, 929, 931, 933, 935, 937, 939, 941, 943, 945, 947, 949, 951, 953, 955, 957, 959, 961, 963, 965, 967, 969, 971, 973, 975, 977, 979, 981, 983, 985, 987, 989] (by decide +kernel) rfl, tyX8_ok, nmX8⟩
