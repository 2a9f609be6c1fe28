theorem aw_of0 {w : Cond} {i : Nat} (h : (k2_sels lw_privs)[i]? = some w) (hm : mvW w = true) : w ∈ AW := List.mem_filter.mpr ⟨List.mem_append_left _ (List.mem_of_getElem? h), hm⟩
theorem aw_of1 {w : Cond} {i : Nat} (h : tables_1_1[i]? = some w) (hm : mvW w = true) : w ∈ AW := List.mem_filter.mpr ⟨List.mem_append_right _ (show w ∈ tables_1_1 ++ (tables_1_2 ++ (tables_1_3 ++ tables_1_4)) from (List.mem_append_left _ (List.mem_of_getElem? h))), hm⟩
theorem aw_of2 {w : Cond} {i : Nat} (h : tables_1_2[i]? = some w) (hm : mvW w = true) : w ∈ AW := List.mem_filter.mpr ⟨List.mem_append_right _ (show w ∈ tables_1_1 ++ (tables_1_2 ++ (tables_1_3 ++ tables_1_4)) from (List.mem_append_right _ (List.mem_append_left _ (List.mem_of_getElem? h)))), hm⟩
theorem aw_of3 {w : Cond} {i : Nat} (h : tables_1_3[i]? = some w) (hm : mvW w = true) : w ∈ AW := List.mem_filter.mpr ⟨List.mem_append_right _ (show w ∈ tables_1_1 ++ (tables_1_2 ++ (tables_1_3 ++ tables_1_4)) from (List.mem_append_right _ (List.mem_append_right _ (List.mem_append_left _ (List.mem_of_getElem? h))))), hm⟩
theorem aw_of4 {w : Cond} {i : Nat} (h : tables_1_4[i]? = some w) (hm : mvW w = true) : w ∈ AW := List.mem_filter.mpr ⟨List.mem_append_right _ (show w ∈ tables_1_1 ++ (tables_1_2 ++ (tables_1_3 ++ tables_1_4)) from (List.mem_append_right _ (List.mem_append_right _ (List.mem_append_right _ (List.mem_of_getElem? h))))), hm⟩
theorem aw_0 : Cond.selects "java/lang/Throwable" ⟨"java/lang/Throwable", "fillInStackTrace", "(I)Ljava/lang/Throwable;"⟩ ⟨"java/lang/Throwable", "fillInStackTrace", "(I)Ljava/lang/Throwable;"⟩ ∈ AW := aw_of0 (i := 0) rfl rfl
theorem aw_1 : Cond.selects "RejudgeHall$Program" yX3_append yX3_append ∈ AW := aw_of0 (i := 1) rfl rfl
theorem aw_2 : Cond.selects "RejudgeHall$Row" yX4_push yX4_push ∈ AW := aw_of0 (i := 2) rfl rfl
theorem aw_3 : Cond.selects "RejudgeHall$Entry" yX0_waits yX0_waits ∈ AW := aw_of0 (i := 3) rfl rfl
theorem aw_4 : Cond.selects "RejudgeHall" yX7_giveVerdict yX7_giveVerdict ∈ AW := aw_of0 (i := 4) rfl rfl
theorem aw_5 : Cond.selects "RejudgeHall" yX7_tryOut yX7_tryOut ∈ AW := aw_of0 (i := 5) rfl rfl
theorem aw_6 : Cond.selects "RejudgeHall$Machine" yX1_execute yX1_execute ∈ AW := aw_of0 (i := 6) rfl rfl
theorem aw_7 : Cond.selects "RejudgeHall$Machine" yX1_step yX1_step ∈ AW := aw_of0 (i := 7) rfl rfl
theorem aw_8 : Cond.selects "RejudgeHall$Program" yX3_has yX3_has ∈ AW := aw_of0 (i := 8) rfl rfl
theorem aw_9 : Cond.selects "RejudgeHall$Row" yX4_at yX4_at ∈ AW := aw_of0 (i := 9) rfl rfl
theorem aw_10 : Cond.selects "RejudgeHall$Machine" yX1_put yX1_put ∈ AW := aw_of0 (i := 10) rfl rfl
theorem aw_11 : Cond.selects "RejudgeHall$Row" yX4_isFull yX4_isFull ∈ AW := aw_of0 (i := 11) rfl rfl
theorem aw_12 : Cond.selects "RejudgeHall$Machine" yX1_make yX1_make ∈ AW := aw_of0 (i := 12) rfl rfl
theorem aw_13 : Cond.selects "RejudgeHall$Row" yX4_pop yX4_pop ∈ AW := aw_of0 (i := 13) rfl rfl
theorem aw_14 : Cond.selects "RejudgeHall$Machine" yX1_swap yX1_swap ∈ AW := aw_of0 (i := 14) rfl rfl
theorem aw_15 : Cond.selects "RejudgeHall$Machine" yX1_goIfZero yX1_goIfZero ∈ AW := aw_of0 (i := 15) rfl rfl
theorem aw_16 : Cond.selects "RejudgeHall$Machine" yX1_goTo yX1_goTo ∈ AW := aw_of0 (i := 16) rfl rfl
theorem aw_17 : Cond.selects "RejudgeHall$Machine" yX1_print yX1_print ∈ AW := aw_of0 (i := 17) rfl rfl
theorem aw_18 : Cond.selects "RejudgeHall$Row" yX4_isWithin yX4_isWithin ∈ AW := aw_of0 (i := 18) rfl rfl
theorem aw_19 : Cond.selects "RejudgeHall$Problem" yX2_pointsOf yX2_pointsOf ∈ AW := aw_of0 (i := 19) rfl rfl
theorem aw_20 : Cond.selects "RejudgeHall" yX7_problemAt yX7_problemAt ∈ AW := aw_of0 (i := 20) rfl rfl
theorem aw_21 : Cond.selects "RejudgeHall$Entry" yX0_letWait yX0_letWait ∈ AW := aw_of0 (i := 21) rfl rfl
theorem aw_22 : Cond.selects "RejudgeHall" yX7_entryAt yX7_entryAt ∈ AW := aw_of0 (i := 22) rfl rfl
theorem aw_23 : Cond.selects "RejudgeHall" yX7_longestCommon yX7_longestCommon ∈ AW := aw_of0 (i := 23) rfl rfl
theorem aw_24 : Cond.selects "RejudgeHall$Program" yX3_isAlikeAt yX3_isAlikeAt ∈ AW := aw_of0 (i := 24) rfl rfl
theorem aw_25 : Cond.selects "RejudgeHall" yX7_countVerdicts yX7_countVerdicts ∈ AW := aw_of0 (i := 25) rfl rfl
theorem aw_26 : Cond.selects "RejudgeHall$Standings" yX5_wipe yX5_wipe ∈ AW := aw_of0 (i := 26) rfl rfl
theorem aw_27 : Cond.selects "RejudgeHall" yX7_isHidden yX7_isHidden ∈ AW := aw_of0 (i := 27) rfl rfl
theorem aw_28 : Cond.selects "RejudgeHall" yX7_isLate yX7_isLate ∈ AW := aw_of0 (i := 28) rfl rfl
theorem aw_29 : Cond.selects "RejudgeHall$Standings" yX5_count yX5_count ∈ AW := aw_of0 (i := 29) rfl rfl
theorem aw_30 : Cond.selects "RejudgeHall" yX7_lowestHidden yX7_lowestHidden ∈ AW := aw_of0 (i := 30) rfl rfl
theorem aw_31 : Cond.selects "RejudgeHall$Standings" yX5_isAhead yX5_isAhead ∈ AW := aw_of0 (i := 31) rfl rfl
theorem aw_32 : Cond.selects "RejudgeHall$Standings" yX5_placeOf yX5_placeOf ∈ AW := aw_of0 (i := 32) rfl rfl
theorem aw_33 : Cond.selects "RejudgeHall" yX7_passesAll yX7_passesAll ∈ AW := aw_of0 (i := 33) rfl rfl
theorem aw_34 : Cond.selects "RejudgeHall$Program" yX3_takeFrom yX3_takeFrom ∈ AW := aw_of0 (i := 34) rfl rfl
theorem aw_35 : Cond.selects "java/util/ArrayList" yJx4a65c_add_72be8 yJx4a65c_add_72be8 ∈ AW := aw_of0 (i := 35) rfl rfl
theorem aw_36 : Cond.selects "java/util/ArrayList" yJx4a65c_grow_d5877 yJx4a65c_grow_d5877 ∈ AW := aw_of0 (i := 36) rfl rfl
theorem aw_37 : Cond.selects "java/util/ArrayList" yJx4a65c_grow_92f84 yJx4a65c_grow_92f84 ∈ AW := aw_of0 (i := 37) rfl rfl
theorem aw_38 : Cond.selects "RejudgeHall" yX7_findsAnswer yX7_findsAnswer ∈ AW := aw_of0 (i := 38) rfl rfl
theorem aw_39 : Cond.selects "RejudgeHall$Row" yX4_copyFrom yX4_copyFrom ∈ AW := aw_of0 (i := 39) rfl rfl
theorem aw_40 : Cond.selects "RejudgeHall$Problem" yX2_addTrial yX2_addTrial ∈ AW := aw_of0 (i := 40) rfl rfl
theorem aw_41 : Cond.selects "RejudgeHall" yX7_findsAllAnswers yX7_findsAllAnswers ∈ AW := aw_of0 (i := 41) rfl rfl
theorem aw_42 : Cond.selects "RejudgeHall" yX7_renewAnswers yX7_renewAnswers ∈ AW := aw_of0 (i := 42) rfl rfl
theorem aw_43 : Cond.selects "RejudgeHall" yX7_hasSolved yX7_hasSolved ∈ AW := aw_of0 (i := 43) rfl rfl
theorem aw_44 : Cond.initialized "RejudgeHallLaw" ∈ AW := aw_of1 (i := 0) rfl rfl
theorem aw_45 : Cond.initialized "RejudgeHall" ∈ AW := aw_of1 (i := 1) rfl rfl
theorem aw_46 : Cond.initialized "RejudgeHall$Program" ∈ AW := aw_of1 (i := 2) rfl rfl
theorem aw_47 : Cond.initialized "RejudgeHall$Row" ∈ AW := aw_of1 (i := 3) rfl rfl
theorem aw_48 : Cond.initialized "RejudgeHall$Machine" ∈ AW := aw_of1 (i := 4) rfl rfl
theorem aw_49 : Cond.initialized "java/util/AbstractCollection" ∈ AW := aw_of1 (i := 5) rfl rfl
theorem aw_50 : Cond.initialized "java/util/AbstractList" ∈ AW := aw_of1 (i := 6) rfl rfl
theorem aw_51 : Cond.initialized "java/util/ArrayList" ∈ AW := aw_of1 (i := 7) rfl rfl
theorem aw_52 : Cond.initialized "RejudgeHall$Standings" ∈ AW := aw_of1 (i := 8) rfl rfl
theorem aw_53 : Cond.initialized "java/lang/Throwable" ∈ AW := aw_of1 (i := 9) rfl rfl
theorem aw_54 : Cond.initialized "java/lang/Exception" ∈ AW := aw_of1 (i := 10) rfl rfl
theorem aw_55 : Cond.initialized "java/lang/RuntimeException" ∈ AW := aw_of1 (i := 11) rfl rfl
theorem aw_56 : Cond.initialized "java/lang/IllegalArgumentException" ∈ AW := aw_of1 (i := 12) rfl rfl
theorem aw_57 : Cond.initialized "java/lang/IllegalStateException" ∈ AW := aw_of1 (i := 13) rfl rfl
theorem aw_58 : Cond.initialized "RejudgeHall$Problem" ∈ AW := aw_of1 (i := 14) rfl rfl
theorem aw_59 : Cond.initialized "java/util/Arrays" ∈ AW := aw_of1 (i := 15) rfl rfl
theorem aw_60 : Cond.initialized "java/lang/System" ∈ AW := aw_of1 (i := 16) rfl rfl
theorem aw_61 : Cond.initialized "jdk/internal/util/ArraysSupport" ∈ AW := aw_of1 (i := 17) rfl rfl
theorem aw_62 : Cond.initialized "java/lang/Math" ∈ AW := aw_of1 (i := 18) rfl rfl
theorem aw_63 : Cond.initialized "java/lang/IndexOutOfBoundsException" ∈ AW := aw_of1 (i := 19) rfl rfl
theorem aw_64 : Cond.initialized "java/util/Objects" ∈ AW := aw_of1 (i := 20) rfl rfl
theorem aw_65 : Cond.initialized "jdk/internal/util/Preconditions" ∈ AW := aw_of1 (i := 21) rfl rfl
theorem aw_66 : Cond.initialized "RejudgeHall$Trial" ∈ AW := aw_of1 (i := 22) rfl rfl
theorem aw_67 : Cond.initialized "RejudgeHall$Entry" ∈ AW := aw_of1 (i := 23) rfl rfl
theorem aw_68 : Cond.classLink "RejudgeHallLaw" 8 "RejudgeHall" ∈ AW := aw_of1 (i := 24) rfl rfl
theorem aw_69 : Cond.instantiable "RejudgeHall" 12 ∈ AW := aw_of1 (i := 25) rfl rfl
theorem aw_70 : Cond.methodLink "RejudgeHallLaw" 85 yX7_init ∈ AW := aw_of1 (i := 26) rfl rfl
theorem aw_71 : Cond.instanceMethod yX7_init ∈ AW := aw_of1 (i := 27) rfl rfl
theorem aw_72 : Cond.code yX7_init prog_1_method_1_code 1 (none : Option Jvm.ClassFile.FieldType) ∈ AW := aw_of1 (i := 28) rfl rfl
theorem aw_73 : Cond.methodLink "RejudgeHall" 1 ⟨"java/lang/Object", "<init>", "()V"⟩ ∈ AW := aw_of1 (i := 29) rfl rfl
theorem aw_74 : Cond.instanceMethod ⟨"java/lang/Object", "<init>", "()V"⟩ ∈ AW := aw_of1 (i := 30) rfl rfl
theorem aw_75 : Cond.code ⟨"java/lang/Object", "<init>", "()V"⟩ object_method_1_code 1 (none : Option Jvm.ClassFile.FieldType) ∈ AW := aw_of1 (i := 31) rfl rfl
theorem aw_76 : Cond.classLink "RejudgeHall" 7 "RejudgeHall$Program" ∈ AW := aw_of1 (i := 32) rfl rfl
theorem aw_77 : Cond.instantiable "RejudgeHall$Program" 3 ∈ AW := aw_of1 (i := 33) rfl rfl
theorem aw_78 : Cond.methodLinkNest "RejudgeHall" 9 yX3_init "RejudgeHall" ∈ AW := aw_of1 (i := 34) rfl rfl
theorem aw_79 : Cond.instanceMethod yX3_init ∈ AW := aw_of1 (i := 35) rfl rfl
theorem aw_80 : Cond.code yX3_init prog_5_method_1_code 1 (none : Option Jvm.ClassFile.FieldType) ∈ AW := aw_of1 (i := 36) rfl rfl
theorem aw_81 : Cond.methodLink "RejudgeHall$Program" 3 ⟨"java/lang/Object", "<init>", "()V"⟩ ∈ AW := aw_of1 (i := 37) rfl rfl
theorem aw_82 : Cond.fieldLink "RejudgeHall$Program" 9 "RejudgeHall$Program" "sorts" "[I" ∈ AW := aw_of1 (i := 38) rfl rfl
theorem aw_83 : Cond.fieldLinkNest "RejudgeHall$Machine" 45 "RejudgeHall$Program" "sorts" "[I" "RejudgeHall" ∈ AW := aw_of1 (i := 39) rfl rfl
theorem aw_84 : Cond.fieldLink "RejudgeHall$Program" 15 "RejudgeHall$Program" "numbers" "[I" ∈ AW := aw_of1 (i := 40) rfl rfl
theorem aw_85 : Cond.fieldLinkNest "RejudgeHall$Machine" 49 "RejudgeHall$Program" "numbers" "[I" "RejudgeHall" ∈ AW := aw_of1 (i := 41) rfl rfl
theorem aw_86 : Cond.fieldLink "RejudgeHall$Program" 18 "RejudgeHall$Program" "length" "I" ∈ AW := aw_of1 (i := 42) rfl rfl
theorem aw_87 : Cond.fieldLinkNest "RejudgeHall" 72 "RejudgeHall$Program" "length" "I" "RejudgeHall" ∈ AW := aw_of1 (i := 43) rfl rfl
theorem aw_88 : Cond.fieldLinkNest "RejudgeHall$Machine" 34 "RejudgeHall$Program" "length" "I" "RejudgeHall" ∈ AW := aw_of1 (i := 44) rfl rfl
theorem aw_96 : Cond.arrayClass .int ∈ AW := aw_of1 (i := 52) rfl rfl
theorem aw_97 : Cond.classLink "RejudgeHall" 16 "RejudgeHall$Row" ∈ AW := aw_of1 (i := 53) rfl rfl
theorem aw_98 : Cond.instantiable "RejudgeHall$Row" 2 ∈ AW := aw_of1 (i := 54) rfl rfl
theorem aw_99 : Cond.methodLinkNest "RejudgeHall" 18 yX4_init "RejudgeHall" ∈ AW := aw_of1 (i := 55) rfl rfl
theorem aw_100 : Cond.instanceMethod yX4_init ∈ AW := aw_of1 (i := 56) rfl rfl
theorem aw_101 : Cond.code yX4_init prog_6_method_1_code 1 (none : Option Jvm.ClassFile.FieldType) ∈ AW := aw_of1 (i := 57) rfl rfl
theorem aw_102 : Cond.methodLink "RejudgeHall$Row" 3 ⟨"java/lang/Object", "<init>", "()V"⟩ ∈ AW := aw_of1 (i := 58) rfl rfl
theorem aw_103 : Cond.fieldLink "RejudgeHall$Row" 9 "RejudgeHall$Row" "numbers" "[I" ∈ AW := aw_of1 (i := 59) rfl rfl
theorem aw_104 : Cond.fieldLink "RejudgeHall$Row" 15 "RejudgeHall$Row" "length" "I" ∈ AW := aw_of1 (i := 60) rfl rfl
theorem aw_105 : Cond.fieldLinkNest "RejudgeHall$Machine" 31 "RejudgeHall$Row" "length" "I" "RejudgeHall" ∈ AW := aw_of1 (i := 61) rfl rfl
theorem aw_106 : Cond.fieldLinkNest "RejudgeHall" 86 "RejudgeHall$Row" "length" "I" "RejudgeHall" ∈ AW := aw_of1 (i := 62) rfl rfl
theorem aw_112 : Cond.classLink "RejudgeHall" 23 "RejudgeHall$Machine" ∈ AW := aw_of1 (i := 68) rfl rfl
theorem aw_113 : Cond.instantiable "RejudgeHall$Machine" 5 ∈ AW := aw_of1 (i := 69) rfl rfl
theorem aw_114 : Cond.methodLinkNest "RejudgeHall" 25 yX1_init "RejudgeHall" ∈ AW := aw_of1 (i := 70) rfl rfl
theorem aw_115 : Cond.instanceMethod yX1_init ∈ AW := aw_of1 (i := 71) rfl rfl
theorem aw_116 : Cond.code yX1_init prog_3_method_1_code 1 (none : Option Jvm.ClassFile.FieldType) ∈ AW := aw_of1 (i := 72) rfl rfl
theorem aw_117 : Cond.methodLink "RejudgeHall$Machine" 3 ⟨"java/lang/Object", "<init>", "()V"⟩ ∈ AW := aw_of1 (i := 73) rfl rfl
theorem aw_118 : Cond.classLink "RejudgeHall$Machine" 9 "RejudgeHall$Row" ∈ AW := aw_of1 (i := 74) rfl rfl
theorem aw_119 : Cond.methodLinkNest "RejudgeHall$Machine" 11 yX4_init "RejudgeHall" ∈ AW := aw_of1 (i := 75) rfl rfl
theorem aw_120 : Cond.fieldLink "RejudgeHall$Machine" 12 "RejudgeHall$Machine" "stack" "LRejudgeHall$Row;" ∈ AW := aw_of1 (i := 76) rfl rfl
theorem aw_121 : Cond.fieldLink "RejudgeHall$Machine" 18 "RejudgeHall$Machine" "output" "LRejudgeHall$Row;" ∈ AW := aw_of1 (i := 77) rfl rfl
theorem aw_122 : Cond.fieldLinkNest "RejudgeHall" 100 "RejudgeHall$Machine" "output" "LRejudgeHall$Row;" "RejudgeHall" ∈ AW := aw_of1 (i := 78) rfl rfl
theorem aw_123 : Cond.fieldLink "RejudgeHall$Machine" 21 "RejudgeHall$Machine" "steps" "I" ∈ AW := aw_of1 (i := 79) rfl rfl
theorem aw_124 : Cond.fieldLinkNest "RejudgeHall" 97 "RejudgeHall$Machine" "steps" "I" "RejudgeHall" ∈ AW := aw_of1 (i := 80) rfl rfl
theorem aw_125 : Cond.fieldLink "RejudgeHall$Machine" 25 "RejudgeHall$Machine" "next" "I" ∈ AW := aw_of1 (i := 81) rfl rfl
theorem aw_126 : Cond.fieldLink "RejudgeHall$Machine" 28 "RejudgeHall$Machine" "inputsRead" "I" ∈ AW := aw_of1 (i := 82) rfl rfl
theorem aw_138 : Cond.classLink "RejudgeHall" 30 "java/util/ArrayList" ∈ AW := aw_of1 (i := 94) rfl rfl
theorem aw_139 : Cond.instantiable "java/util/ArrayList" 3 ∈ AW := aw_of1 (i := 95) rfl rfl
theorem aw_140 : Cond.methodLink "RejudgeHall" 32 yJx4a65c_init_da8c8 ∈ AW := aw_of1 (i := 96) rfl rfl
theorem aw_141 : Cond.instanceMethod yJx4a65c_init_da8c8 ∈ AW := aw_of1 (i := 97) rfl rfl
theorem aw_142 : Cond.code yJx4a65c_init_da8c8 prog_25_method_2_code 1 (none : Option Jvm.ClassFile.FieldType) ∈ AW := aw_of1 (i := 98) rfl rfl
theorem aw_143 : Cond.methodLink "java/util/ArrayList" 1 yJxc12de_init_da8c8 ∈ AW := aw_of1 (i := 99) rfl rfl
theorem aw_144 : Cond.instanceMethod yJxc12de_init_da8c8 ∈ AW := aw_of1 (i := 100) rfl rfl
theorem aw_145 : Cond.code yJxc12de_init_da8c8 prog_24_method_1_code 1 (none : Option Jvm.ClassFile.FieldType) ∈ AW := aw_of1 (i := 101) rfl rfl
theorem aw_146 : Cond.methodLink "java/util/AbstractList" 1 yJxa1e45_init_da8c8 ∈ AW := aw_of1 (i := 102) rfl rfl
theorem aw_147 : Cond.instanceMethod yJxa1e45_init_da8c8 ∈ AW := aw_of1 (i := 103) rfl rfl
theorem aw_148 : Cond.code yJxa1e45_init_da8c8 prog_23_method_1_code 1 (none : Option Jvm.ClassFile.FieldType) ∈ AW := aw_of1 (i := 104) rfl rfl
theorem aw_149 : Cond.methodLink "java/util/AbstractCollection" 1 ⟨"java/lang/Object", "<init>", "()V"⟩ ∈ AW := aw_of1 (i := 105) rfl rfl
theorem aw_150 : Cond.fieldLink "java/util/ArrayList" 39 "java/util/ArrayList" "DEFAULTCAPACITY_EMPTY_ELEMENTDATA" "[Ljava/lang/Object;" ∈ AW := aw_of1 (i := 106) rfl rfl
theorem aw_152 : Cond.fieldLink "java/util/ArrayList" 9 "java/util/ArrayList" "elementData" "[Ljava/lang/Object;" ∈ AW := aw_of1 (i := 108) rfl rfl
theorem aw_153 : Cond.fieldLink "java/util/ArrayList" 48 "java/util/ArrayList" "size" "I" ∈ AW := aw_of1 (i := 109) rfl rfl
theorem aw_154 : Cond.fieldLink "java/util/AbstractList" 7 "java/util/AbstractList" "modCount" "I" ∈ AW := aw_of1 (i := 110) rfl rfl
theorem aw_155 : Cond.fieldLink "java/util/ArrayList" 63 "java/util/ArrayList" "modCount" "I" ∈ AW := aw_of1 (i := 111) rfl rfl
theorem aw_156 : Cond.sameField "java/util/ArrayList" "java/util/AbstractList" "modCount" "I" ∈ AW := aw_of1 (i := 112) rfl rfl
theorem aw_164 : Cond.classLink "RejudgeHall" 40 "RejudgeHall$Standings" ∈ AW := aw_of1 (i := 120) rfl rfl
theorem aw_165 : Cond.instantiable "RejudgeHall$Standings" 5 ∈ AW := aw_of1 (i := 121) rfl rfl
theorem aw_166 : Cond.methodLinkNest "RejudgeHall" 42 yX5_init "RejudgeHall" ∈ AW := aw_of1 (i := 122) rfl rfl
theorem aw_167 : Cond.instanceMethod yX5_init ∈ AW := aw_of1 (i := 123) rfl rfl
theorem aw_168 : Cond.code yX5_init prog_7_method_1_code 1 (none : Option Jvm.ClassFile.FieldType) ∈ AW := aw_of1 (i := 124) rfl rfl
theorem aw_169 : Cond.methodLink "RejudgeHall$Standings" 3 ⟨"java/lang/Object", "<init>", "()V"⟩ ∈ AW := aw_of1 (i := 125) rfl rfl
theorem aw_170 : Cond.fieldLink "RejudgeHall$Standings" 9 "RejudgeHall$Standings" "solved" "[I" ∈ AW := aw_of1 (i := 126) rfl rfl
theorem aw_171 : Cond.fieldLinkNest "RejudgeHall" 261 "RejudgeHall$Standings" "solved" "[I" "RejudgeHall" ∈ AW := aw_of1 (i := 127) rfl rfl
theorem aw_172 : Cond.fieldLink "RejudgeHall$Standings" 15 "RejudgeHall$Standings" "sums" "[I" ∈ AW := aw_of1 (i := 128) rfl rfl
theorem aw_173 : Cond.fieldLinkNest "RejudgeHall" 264 "RejudgeHall$Standings" "sums" "[I" "RejudgeHall" ∈ AW := aw_of1 (i := 129) rfl rfl
theorem aw_174 : Cond.fieldLink "RejudgeHall$Standings" 18 "RejudgeHall$Standings" "latest" "[I" ∈ AW := aw_of1 (i := 130) rfl rfl
theorem aw_175 : Cond.fieldLinkNest "RejudgeHall" 267 "RejudgeHall$Standings" "latest" "[I" "RejudgeHall" ∈ AW := aw_of1 (i := 131) rfl rfl
theorem aw_176 : Cond.fieldLink "RejudgeHall$Standings" 21 "RejudgeHall$Standings" "tries" "[I" ∈ AW := aw_of1 (i := 132) rfl rfl
theorem aw_177 : Cond.fieldLink "RejudgeHall$Standings" 24 "RejudgeHall$Standings" "isSolved" "[Z" ∈ AW := aw_of1 (i := 133) rfl rfl
theorem aw_189 : Cond.arrayClass .boolean ∈ AW := aw_of1 (i := 145) rfl rfl
theorem aw_190 : Cond.fieldLink "RejudgeHall" 10 "RejudgeHall" "deskProgram" "LRejudgeHall$Program;" ∈ AW := aw_of1 (i := 146) rfl rfl
theorem aw_191 : Cond.fieldLink "RejudgeHall" 19 "RejudgeHall" "deskInput" "LRejudgeHall$Row;" ∈ AW := aw_of1 (i := 147) rfl rfl
theorem aw_192 : Cond.fieldLink "RejudgeHall" 26 "RejudgeHall" "machine" "LRejudgeHall$Machine;" ∈ AW := aw_of1 (i := 148) rfl rfl
theorem aw_193 : Cond.fieldLink "RejudgeHall" 33 "RejudgeHall" "problems" "Ljava/util/ArrayList;" ∈ AW := aw_of1 (i := 149) rfl rfl
theorem aw_194 : Cond.fieldLink "RejudgeHall" 37 "RejudgeHall" "entries" "Ljava/util/ArrayList;" ∈ AW := aw_of1 (i := 150) rfl rfl
theorem aw_195 : Cond.fieldLink "RejudgeHall" 43 "RejudgeHall" "standings" "LRejudgeHall$Standings;" ∈ AW := aw_of1 (i := 151) rfl rfl
theorem aw_196 : Cond.fieldLink "RejudgeHall" 47 "RejudgeHall" "judgings" "[I" ∈ AW := aw_of1 (i := 152) rfl rfl
theorem aw_197 : Cond.fieldLink "RejudgeHall" 51 "RejudgeHall" "hacks" "[I" ∈ AW := aw_of1 (i := 153) rfl rfl
theorem aw_198 : Cond.fieldLink "RejudgeHall" 54 "RejudgeHall" "revealed" "[Z" ∈ AW := aw_of1 (i := 154) rfl rfl
theorem aw_199 : Cond.fieldLink "RejudgeHall" 58 "RejudgeHall" "commonRow" "[I" ∈ AW := aw_of1 (i := 155) rfl rfl
theorem aw_200 : Cond.fieldLink "RejudgeHall" 61 "RejudgeHall" "minute" "I" ∈ AW := aw_of1 (i := 156) rfl rfl
theorem aw_201 : Cond.fieldLink "RejudgeHall" 65 "RejudgeHall" "frozenFrom" "I" ∈ AW := aw_of1 (i := 157) rfl rfl
theorem aw_227 : Cond.methodLink "RejudgeHallLaw" 13 yX7_code ∈ AW := aw_of1 (i := 183) rfl rfl
theorem aw_228 : Cond.instanceMethod yX7_code ∈ AW := aw_of1 (i := 184) rfl rfl
theorem aw_229 : Cond.selects "RejudgeHall" yX7_code yX7_code ∈ AW := aw_of1 (i := 185) rfl rfl
theorem aw_230 : Cond.code yX7_code prog_1_method_2_code 3 (some .int) ∈ AW := aw_of1 (i := 186) rfl rfl
theorem aw_231 : Cond.methodLink "RejudgeHall" 68 yX7_needRange ∈ AW := aw_of1 (i := 187) rfl rfl
theorem aw_232 : Cond.static yX7_needRange ∈ AW := aw_of1 (i := 188) rfl rfl
theorem aw_233 : Cond.code yX7_needRange prog_1_method_22_code 3 (none : Option Jvm.ClassFile.FieldType) ∈ AW := aw_of1 (i := 189) rfl rfl
theorem aw_234 : Cond.classLink "RejudgeHall" 295 "java/lang/IllegalArgumentException" ∈ AW := aw_of1 (i := 190) rfl rfl
theorem aw_235 : Cond.instantiable "java/lang/IllegalArgumentException" 6 ∈ AW := aw_of1 (i := 191) rfl rfl
theorem aw_236 : Cond.castable "java/lang/IllegalArgumentException" "java/lang/IllegalArgumentException" ∈ AW := aw_of1 (i := 192) rfl rfl
theorem aw_237 : Cond.declares ⟨"java/lang/RuntimeException", "<init>", "()V"⟩ ∈ AW := aw_of1 (i := 193) rfl rfl
theorem aw_238 : Cond.declares ⟨"java/lang/RuntimeException", "<init>", "(Ljava/lang/String;)V"⟩ ∈ AW := aw_of1 (i := 194) rfl rfl
theorem aw_239 : Cond.declares ⟨"java/lang/Exception", "<init>", "()V"⟩ ∈ AW := aw_of1 (i := 195) rfl rfl
theorem aw_240 : Cond.declares ⟨"java/lang/Exception", "<init>", "(Ljava/lang/String;)V"⟩ ∈ AW := aw_of1 (i := 196) rfl rfl
theorem aw_241 : Cond.declares ⟨"java/lang/Throwable", "<init>", "()V"⟩ ∈ AW := aw_of1 (i := 197) rfl rfl
theorem aw_242 : Cond.declares ⟨"java/lang/Throwable", "<init>", "(Ljava/lang/String;)V"⟩ ∈ AW := aw_of1 (i := 198) rfl rfl
theorem aw_243 : Cond.selects "java/lang/IllegalArgumentException" ⟨"java/lang/Throwable", "fillInStackTrace", "(I)Ljava/lang/Throwable;"⟩ ⟨"java/lang/Throwable", "fillInStackTrace", "(I)Ljava/lang/Throwable;"⟩ ∈ AW := aw_of1 (i := 199) rfl rfl
theorem aw_244 : Cond.selects "java/lang/IllegalArgumentException" ⟨"java/lang/Throwable", "fillInStackTrace", "()Ljava/lang/Throwable;"⟩ ⟨"java/lang/Throwable", "fillInStackTrace", "()Ljava/lang/Throwable;"⟩ ∈ AW := aw_of1 (i := 200) rfl rfl
theorem aw_255 : Cond.fieldLink "java/lang/Throwable" 198 "java/lang/Throwable" "backtrace" "Ljava/lang/Object;" ∈ AW := aw_of1 (i := 211) rfl rfl
theorem aw_257 : Cond.instanceMethod ⟨"java/lang/Throwable", "<init>", "()V"⟩ ∈ AW := aw_of1 (i := 213) rfl rfl
theorem aw_258 : Cond.code ⟨"java/lang/Throwable", "<init>", "()V"⟩ prog_22_method_1_code 1 (none : Option Jvm.ClassFile.FieldType) ∈ AW := aw_of1 (i := 214) rfl rfl
theorem aw_259 : Cond.methodLink "java/lang/Throwable" 1 ⟨"java/lang/Object", "<init>", "()V"⟩ ∈ AW := aw_of1 (i := 215) rfl rfl
theorem aw_260 : Cond.fieldLink "java/lang/Throwable" 13 "java/lang/Throwable" "UNASSIGNED_STACK" "[Ljava/lang/StackTraceElement;" ∈ AW := aw_of1 (i := 216) rfl rfl
theorem aw_262 : Cond.fieldLink "java/lang/Throwable" 20 "java/lang/Throwable" "SUPPRESSED_SENTINEL" "Ljava/util/List;" ∈ AW := aw_of1 (i := 218) rfl rfl
theorem aw_264 : Cond.methodLink "java/lang/Throwable" 27 ⟨"java/lang/Throwable", "fillInStackTrace", "()Ljava/lang/Throwable;"⟩ ∈ AW := aw_of1 (i := 220) rfl rfl
theorem aw_265 : Cond.instanceMethod ⟨"java/lang/Throwable", "fillInStackTrace", "()Ljava/lang/Throwable;"⟩ ∈ AW := aw_of1 (i := 221) rfl rfl
theorem aw_267 : Cond.selects "java/lang/IllegalStateException" ⟨"java/lang/Throwable", "fillInStackTrace", "()Ljava/lang/Throwable;"⟩ ⟨"java/lang/Throwable", "fillInStackTrace", "()Ljava/lang/Throwable;"⟩ ∈ AW := aw_of1 (i := 223) rfl rfl
theorem aw_268 : Cond.selects "java/lang/IndexOutOfBoundsException" ⟨"java/lang/Throwable", "fillInStackTrace", "()Ljava/lang/Throwable;"⟩ ⟨"java/lang/Throwable", "fillInStackTrace", "()Ljava/lang/Throwable;"⟩ ∈ AW := aw_of1 (i := 224) rfl rfl
theorem aw_270 : Cond.methodLink "java/lang/Throwable" 202 ⟨"java/lang/Throwable", "fillInStackTrace", "(I)Ljava/lang/Throwable;"⟩ ∈ AW := aw_of1 (i := 226) rfl rfl
theorem aw_272 : Cond.instanceMethod ⟨"java/lang/Throwable", "fillInStackTrace", "(I)Ljava/lang/Throwable;"⟩ ∈ AW := aw_of1 (i := 228) rfl rfl
theorem aw_273 : Cond.instantiable "java/lang/Throwable" 6 ∈ AW := aw_of1 (i := 229) rfl rfl
theorem aw_274 : Cond.native ⟨"java/lang/Throwable", "fillInStackTrace", "(I)Ljava/lang/Throwable;"⟩ ∈ AW := aw_of1 (i := 230) rfl rfl
theorem aw_276 : Cond.methodLink "RejudgeHall" 299 ⟨"java/lang/IllegalArgumentException", "<init>", "(Ljava/lang/String;)V"⟩ ∈ AW := aw_of1 (i := 232) rfl rfl
theorem aw_277 : Cond.instanceMethod ⟨"java/lang/IllegalArgumentException", "<init>", "(Ljava/lang/String;)V"⟩ ∈ AW := aw_of1 (i := 233) rfl rfl
theorem aw_278 : Cond.code ⟨"java/lang/IllegalArgumentException", "<init>", "(Ljava/lang/String;)V"⟩ prog_14_method_2_code 2 (none : Option Jvm.ClassFile.FieldType) ∈ AW := aw_of1 (i := 234) rfl rfl
theorem aw_279 : Cond.methodLink "java/lang/IllegalArgumentException" 7 ⟨"java/lang/RuntimeException", "<init>", "(Ljava/lang/String;)V"⟩ ∈ AW := aw_of1 (i := 235) rfl rfl
theorem aw_280 : Cond.instanceMethod ⟨"java/lang/RuntimeException", "<init>", "(Ljava/lang/String;)V"⟩ ∈ AW := aw_of1 (i := 236) rfl rfl
theorem aw_281 : Cond.code ⟨"java/lang/RuntimeException", "<init>", "(Ljava/lang/String;)V"⟩ prog_19_method_2_code 2 (none : Option Jvm.ClassFile.FieldType) ∈ AW := aw_of1 (i := 237) rfl rfl
theorem aw_282 : Cond.methodLink "java/lang/RuntimeException" 7 ⟨"java/lang/Exception", "<init>", "(Ljava/lang/String;)V"⟩ ∈ AW := aw_of1 (i := 238) rfl rfl
theorem aw_283 : Cond.instanceMethod ⟨"java/lang/Exception", "<init>", "(Ljava/lang/String;)V"⟩ ∈ AW := aw_of1 (i := 239) rfl rfl
theorem aw_284 : Cond.code ⟨"java/lang/Exception", "<init>", "(Ljava/lang/String;)V"⟩ prog_13_method_2_code 2 (none : Option Jvm.ClassFile.FieldType) ∈ AW := aw_of2 (i := 0) rfl rfl
theorem aw_285 : Cond.methodLink "java/lang/Exception" 7 ⟨"java/lang/Throwable", "<init>", "(Ljava/lang/String;)V"⟩ ∈ AW := aw_of2 (i := 1) rfl rfl
theorem aw_286 : Cond.instanceMethod ⟨"java/lang/Throwable", "<init>", "(Ljava/lang/String;)V"⟩ ∈ AW := aw_of2 (i := 2) rfl rfl
theorem aw_287 : Cond.code ⟨"java/lang/Throwable", "<init>", "(Ljava/lang/String;)V"⟩ prog_22_method_2_code 2 (none : Option Jvm.ClassFile.FieldType) ∈ AW := aw_of2 (i := 3) rfl rfl
theorem aw_288 : Cond.fieldLink "java/lang/Throwable" 198 "java/lang/Throwable" "backtrace" "Ljava/lang/Object;" ∈ AW := aw_of2 (i := 4) rfl rfl
theorem aw_289 : Cond.fieldLink "java/lang/Throwable" 31 "java/lang/Throwable" "detailMessage" "Ljava/lang/String;" ∈ AW := aw_of2 (i := 5) rfl rfl
theorem aw_290 : Cond.fieldLink "java/lang/Throwable" 7 "java/lang/Throwable" "cause" "Ljava/lang/Throwable;" ∈ AW := aw_of2 (i := 6) rfl rfl
theorem aw_291 : Cond.fieldLink "java/lang/Throwable" 17 "java/lang/Throwable" "stackTrace" "[Ljava/lang/StackTraceElement;" ∈ AW := aw_of2 (i := 7) rfl rfl
theorem aw_292 : Cond.fieldLink "java/lang/Throwable" 24 "java/lang/Throwable" "suppressedExceptions" "Ljava/util/List;" ∈ AW := aw_of2 (i := 8) rfl rfl
theorem aw_301 : Cond.arrayClass .byte ∈ AW := aw_of2 (i := 17) rfl rfl
theorem aw_302 : Cond.classLink "RejudgeHall" 75 "java/lang/IllegalStateException" ∈ AW := aw_of2 (i := 18) rfl rfl
theorem aw_303 : Cond.instantiable "java/lang/IllegalStateException" 6 ∈ AW := aw_of2 (i := 19) rfl rfl
theorem aw_304 : Cond.castable "java/lang/IllegalStateException" "java/lang/IllegalStateException" ∈ AW := aw_of2 (i := 20) rfl rfl
theorem aw_305 : Cond.selects "java/lang/IllegalStateException" ⟨"java/lang/Throwable", "fillInStackTrace", "(I)Ljava/lang/Throwable;"⟩ ⟨"java/lang/Throwable", "fillInStackTrace", "(I)Ljava/lang/Throwable;"⟩ ∈ AW := aw_of2 (i := 21) rfl rfl
theorem aw_312 : Cond.methodLink "RejudgeHall" 79 ⟨"java/lang/IllegalStateException", "<init>", "(Ljava/lang/String;)V"⟩ ∈ AW := aw_of2 (i := 28) rfl rfl
theorem aw_313 : Cond.instanceMethod ⟨"java/lang/IllegalStateException", "<init>", "(Ljava/lang/String;)V"⟩ ∈ AW := aw_of2 (i := 29) rfl rfl
theorem aw_314 : Cond.code ⟨"java/lang/IllegalStateException", "<init>", "(Ljava/lang/String;)V"⟩ prog_15_method_2_code 2 (none : Option Jvm.ClassFile.FieldType) ∈ AW := aw_of2 (i := 30) rfl rfl
theorem aw_315 : Cond.methodLink "java/lang/IllegalStateException" 7 ⟨"java/lang/RuntimeException", "<init>", "(Ljava/lang/String;)V"⟩ ∈ AW := aw_of2 (i := 31) rfl rfl
theorem aw_318 : Cond.methodLinkNest "RejudgeHall" 82 yX3_append "RejudgeHall" ∈ AW := aw_of2 (i := 34) rfl rfl
theorem aw_320 : Cond.instanceMethod yX3_append ∈ AW := aw_of2 (i := 36) rfl rfl
theorem aw_321 : Cond.code yX3_append prog_5_method_2_code 3 (none : Option Jvm.ClassFile.FieldType) ∈ AW := aw_of2 (i := 37) rfl rfl
theorem aw_322 : Cond.methodLink "RejudgeHallLaw" 17 yX7_input ∈ AW := aw_of2 (i := 38) rfl rfl
theorem aw_323 : Cond.instanceMethod yX7_input ∈ AW := aw_of2 (i := 39) rfl rfl
theorem aw_324 : Cond.selects "RejudgeHall" yX7_input yX7_input ∈ AW := aw_of2 (i := 40) rfl rfl
theorem aw_325 : Cond.code yX7_input prog_1_method_3_code 2 (some .int) ∈ AW := aw_of2 (i := 41) rfl rfl
theorem aw_327 : Cond.methodLinkNest "RejudgeHall" 89 yX4_push "RejudgeHall" ∈ AW := aw_of2 (i := 43) rfl rfl
theorem aw_329 : Cond.instanceMethod yX4_push ∈ AW := aw_of2 (i := 45) rfl rfl
theorem aw_330 : Cond.code yX4_push prog_6_method_3_code 2 (none : Option Jvm.ClassFile.FieldType) ∈ AW := aw_of2 (i := 46) rfl rfl
theorem aw_331 : Cond.methodLink "RejudgeHallLaw" 94 yX7_clear ∈ AW := aw_of2 (i := 47) rfl rfl
theorem aw_332 : Cond.instanceMethod yX7_clear ∈ AW := aw_of2 (i := 48) rfl rfl
theorem aw_333 : Cond.selects "RejudgeHall" yX7_clear yX7_clear ∈ AW := aw_of2 (i := 49) rfl rfl
theorem aw_334 : Cond.code yX7_clear prog_1_method_4_code 2 (some .int) ∈ AW := aw_of2 (i := 50) rfl rfl
theorem aw_335 : Cond.methodLink "RejudgeHallLaw" 43 yX7_pass ∈ AW := aw_of2 (i := 51) rfl rfl
theorem aw_336 : Cond.instanceMethod yX7_pass ∈ AW := aw_of2 (i := 52) rfl rfl
theorem aw_337 : Cond.selects "RejudgeHall" yX7_pass yX7_pass ∈ AW := aw_of2 (i := 53) rfl rfl
theorem aw_338 : Cond.code yX7_pass prog_1_method_12_code 2 (some .int) ∈ AW := aw_of2 (i := 54) rfl rfl
theorem aw_340 : Cond.methodLink "RejudgeHallLaw" 107 yX7_judge ∈ AW := aw_of2 (i := 56) rfl rfl
theorem aw_341 : Cond.instanceMethod yX7_judge ∈ AW := aw_of2 (i := 57) rfl rfl
theorem aw_342 : Cond.selects "RejudgeHall" yX7_judge yX7_judge ∈ AW := aw_of2 (i := 58) rfl rfl
theorem aw_343 : Cond.code yX7_judge prog_1_method_13_code 5 (some .int) ∈ AW := aw_of2 (i := 59) rfl rfl
theorem aw_344 : Cond.methodLink "RejudgeHall" 107 yJx4a65c_size_8abf5 ∈ AW := aw_of2 (i := 60) rfl rfl
theorem aw_345 : Cond.instanceMethod yJx4a65c_size_8abf5 ∈ AW := aw_of2 (i := 61) rfl rfl
theorem aw_346 : Cond.selects "java/util/ArrayList" yJx4a65c_size_8abf5 yJx4a65c_size_8abf5 ∈ AW := aw_of2 (i := 62) rfl rfl
theorem aw_347 : Cond.code yJx4a65c_size_8abf5 prog_25_method_8_code 1 (some .int) ∈ AW := aw_of2 (i := 63) rfl rfl
theorem aw_348 : Cond.methodLink "RejudgeHall" 182 yJx4a65c_get_915e3 ∈ AW := aw_of2 (i := 64) rfl rfl
theorem aw_349 : Cond.instanceMethod yJx4a65c_get_915e3 ∈ AW := aw_of2 (i := 65) rfl rfl
theorem aw_350 : Cond.selects "java/util/ArrayList" yJx4a65c_get_915e3 yJx4a65c_get_915e3 ∈ AW := aw_of2 (i := 66) rfl rfl
theorem aw_351 : Cond.code yJx4a65c_get_915e3 prog_25_method_20_code 2 (some (.object "java/lang/Object")) ∈ AW := aw_of2 (i := 67) rfl rfl
theorem aw_352 : Cond.methodLink "java/util/ArrayList" 118 yJ15_checkIndex_7cf53 ∈ AW := aw_of2 (i := 68) rfl rfl
theorem aw_353 : Cond.static yJ15_checkIndex_7cf53 ∈ AW := aw_of2 (i := 69) rfl rfl
theorem aw_354 : Cond.code yJ15_checkIndex_7cf53 prog_29_method_17_code 2 (some .int) ∈ AW := aw_of2 (i := 70) rfl rfl
theorem aw_355 : Cond.methodLink "java/util/Objects" 105 yJ3_checkIndex_8e157 ∈ AW := aw_of2 (i := 71) rfl rfl
theorem aw_356 : Cond.static yJ3_checkIndex_8e157 ∈ AW := aw_of2 (i := 72) rfl rfl
theorem aw_357 : Cond.code yJ3_checkIndex_8e157 prog_33_method_11_code 3 (some .int) ∈ AW := aw_of2 (i := 73) rfl rfl
theorem aw_358 : Cond.methodLink "java/util/ArrayList" 123 yJx4a65c_elementData_915e3 ∈ AW := aw_of2 (i := 74) rfl rfl
theorem aw_359 : Cond.instanceMethod yJx4a65c_elementData_915e3 ∈ AW := aw_of2 (i := 75) rfl rfl
theorem aw_360 : Cond.selects "java/util/ArrayList" yJx4a65c_elementData_915e3 yJx4a65c_elementData_915e3 ∈ AW := aw_of2 (i := 76) rfl rfl
theorem aw_361 : Cond.code yJx4a65c_elementData_915e3 prog_25_method_18_code 2 (some (.object "java/lang/Object")) ∈ AW := aw_of2 (i := 77) rfl rfl
theorem aw_362 : Cond.classLink "RejudgeHall" 191 "RejudgeHall$Entry" ∈ AW := aw_of2 (i := 78) rfl rfl
theorem aw_363 : Cond.methodLinkNest "RejudgeHall" 201 yX0_waits "RejudgeHall" ∈ AW := aw_of2 (i := 79) rfl rfl
theorem aw_365 : Cond.instanceMethod yX0_waits ∈ AW := aw_of2 (i := 81) rfl rfl
theorem aw_366 : Cond.instantiable "RejudgeHall$Entry" 8 ∈ AW := aw_of2 (i := 82) rfl rfl
theorem aw_367 : Cond.code yX0_waits prog_2_method_2_code 1 (some .boolean) ∈ AW := aw_of2 (i := 83) rfl rfl
theorem aw_368 : Cond.methodLink "RejudgeHall" 208 yX7_giveVerdict ∈ AW := aw_of2 (i := 84) rfl rfl
theorem aw_370 : Cond.instanceMethod yX7_giveVerdict ∈ AW := aw_of2 (i := 86) rfl rfl
theorem aw_371 : Cond.code yX7_giveVerdict prog_1_method_31_code 8 (none : Option Jvm.ClassFile.FieldType) ∈ AW := aw_of2 (i := 87) rfl rfl
theorem aw_372 : Cond.classLink "RejudgeHall" 149 "RejudgeHall$Trial" ∈ AW := aw_of2 (i := 88) rfl rfl
theorem aw_373 : Cond.methodLink "RejudgeHall" 291 yX7_tryOut ∈ AW := aw_of2 (i := 89) rfl rfl
theorem aw_375 : Cond.instanceMethod yX7_tryOut ∈ AW := aw_of2 (i := 91) rfl rfl
theorem aw_376 : Cond.code yX7_tryOut prog_1_method_29_code 5 (some .int) ∈ AW := aw_of2 (i := 92) rfl rfl
theorem aw_377 : Cond.methodLinkNest "RejudgeHall" 93 yX1_execute "RejudgeHall" ∈ AW := aw_of2 (i := 93) rfl rfl
theorem aw_379 : Cond.instanceMethod yX1_execute ∈ AW := aw_of2 (i := 95) rfl rfl
theorem aw_380 : Cond.code yX1_execute prog_3_method_2_code 5 (some .int) ∈ AW := aw_of2 (i := 96) rfl rfl
theorem aw_381 : Cond.methodLink "RejudgeHall$Machine" 37 yX1_step ∈ AW := aw_of2 (i := 97) rfl rfl
theorem aw_383 : Cond.instanceMethod yX1_step ∈ AW := aw_of2 (i := 99) rfl rfl
theorem aw_384 : Cond.code yX1_step prog_3_method_3_code 5 (some .int) ∈ AW := aw_of2 (i := 100) rfl rfl
theorem aw_385 : Cond.methodLinkNest "RejudgeHall$Machine" 41 yX3_has "RejudgeHall" ∈ AW := aw_of2 (i := 101) rfl rfl
theorem aw_387 : Cond.instanceMethod yX3_has ∈ AW := aw_of2 (i := 103) rfl rfl
theorem aw_388 : Cond.code yX3_has prog_5_method_4_code 2 (some .boolean) ∈ AW := aw_of2 (i := 104) rfl rfl
theorem aw_389 : Cond.methodLinkNest "RejudgeHall$Machine" 52 yX4_at "RejudgeHall" ∈ AW := aw_of2 (i := 105) rfl rfl
theorem aw_391 : Cond.instanceMethod yX4_at ∈ AW := aw_of2 (i := 107) rfl rfl
theorem aw_392 : Cond.code yX4_at prog_6_method_5_code 2 (some .int) ∈ AW := aw_of2 (i := 108) rfl rfl
theorem aw_393 : Cond.methodLink "RejudgeHall$Machine" 56 yX1_put ∈ AW := aw_of2 (i := 109) rfl rfl
theorem aw_395 : Cond.instanceMethod yX1_put ∈ AW := aw_of2 (i := 111) rfl rfl
theorem aw_396 : Cond.code yX1_put prog_3_method_4_code 2 (some .int) ∈ AW := aw_of2 (i := 112) rfl rfl
theorem aw_397 : Cond.methodLinkNest "RejudgeHall$Machine" 76 yX4_isFull "RejudgeHall" ∈ AW := aw_of2 (i := 113) rfl rfl
theorem aw_399 : Cond.instanceMethod yX4_isFull ∈ AW := aw_of2 (i := 115) rfl rfl
theorem aw_400 : Cond.code yX4_isFull prog_6_method_2_code 1 (some .boolean) ∈ AW := aw_of2 (i := 116) rfl rfl
theorem aw_401 : Cond.methodLinkNest "RejudgeHall$Machine" 80 yX4_push "RejudgeHall" ∈ AW := aw_of2 (i := 117) rfl rfl
theorem aw_402 : Cond.methodLink "RejudgeHall$Machine" 59 yX1_make ∈ AW := aw_of2 (i := 118) rfl rfl
theorem aw_404 : Cond.instanceMethod yX1_make ∈ AW := aw_of2 (i := 120) rfl rfl
theorem aw_405 : Cond.code yX1_make prog_3_method_5_code 8 (some .int) ∈ AW := aw_of2 (i := 121) rfl rfl
theorem aw_406 : Cond.methodLinkNest "RejudgeHall$Machine" 84 yX4_pop "RejudgeHall" ∈ AW := aw_of2 (i := 122) rfl rfl
theorem aw_408 : Cond.instanceMethod yX4_pop ∈ AW := aw_of2 (i := 124) rfl rfl
theorem aw_409 : Cond.code yX4_pop prog_6_method_4_code 1 (some .int) ∈ AW := aw_of2 (i := 125) rfl rfl
theorem aw_410 : Cond.constantLong "RejudgeHall$Machine" 87 (999999 : Int64) ∈ AW := aw_of2 (i := 126) rfl rfl
theorem aw_411 : Cond.constantLong "RejudgeHall$Machine" 89 (-999999 : Int64) ∈ AW := aw_of2 (i := 127) rfl rfl
theorem aw_412 : Cond.methodLink "RejudgeHall$Machine" 62 yX1_swap ∈ AW := aw_of2 (i := 128) rfl rfl
theorem aw_414 : Cond.instanceMethod yX1_swap ∈ AW := aw_of2 (i := 130) rfl rfl
theorem aw_415 : Cond.code yX1_swap prog_3_method_6_code 3 (some .int) ∈ AW := aw_of2 (i := 131) rfl rfl
theorem aw_416 : Cond.methodLink "RejudgeHall$Machine" 66 yX1_goIfZero ∈ AW := aw_of2 (i := 132) rfl rfl
theorem aw_418 : Cond.instanceMethod yX1_goIfZero ∈ AW := aw_of2 (i := 134) rfl rfl
theorem aw_419 : Cond.code yX1_goIfZero prog_3_method_7_code 3 (some .int) ∈ AW := aw_of2 (i := 135) rfl rfl
theorem aw_420 : Cond.methodLink "RejudgeHall$Machine" 70 yX1_goTo ∈ AW := aw_of2 (i := 136) rfl rfl
theorem aw_422 : Cond.instanceMethod yX1_goTo ∈ AW := aw_of2 (i := 138) rfl rfl
theorem aw_423 : Cond.code yX1_goTo prog_3_method_8_code 3 (some .int) ∈ AW := aw_of2 (i := 139) rfl rfl
theorem aw_424 : Cond.methodLink "RejudgeHall$Machine" 73 yX1_print ∈ AW := aw_of2 (i := 140) rfl rfl
theorem aw_426 : Cond.instanceMethod yX1_print ∈ AW := aw_of2 (i := 142) rfl rfl
theorem aw_427 : Cond.code yX1_print prog_3_method_9_code 1 (some .int) ∈ AW := aw_of2 (i := 143) rfl rfl
theorem aw_428 : Cond.methodLinkNest "RejudgeHall" 312 yX4_isWithin "RejudgeHall" ∈ AW := aw_of2 (i := 144) rfl rfl
theorem aw_430 : Cond.instanceMethod yX4_isWithin ∈ AW := aw_of2 (i := 146) rfl rfl
theorem aw_431 : Cond.code yX4_isWithin prog_6_method_7_code 4 (some .boolean) ∈ AW := aw_of2 (i := 147) rfl rfl
theorem aw_432 : Cond.methodLink "RejudgeHall$Row" 25 yX4_at ∈ AW := aw_of2 (i := 148) rfl rfl
theorem aw_433 : Cond.methodLink "RejudgeHall$Row" 29 yJ9_abs_0f7a4 ∈ AW := aw_of2 (i := 149) rfl rfl
theorem aw_434 : Cond.static yJ9_abs_0f7a4 ∈ AW := aw_of2 (i := 150) rfl rfl
theorem aw_435 : Cond.code yJ9_abs_0f7a4 prog_18_method_59_code 1 (some .int) ∈ AW := aw_of2 (i := 151) rfl rfl
theorem aw_436 : Cond.methodLinkNest "RejudgeHall" 319 yX2_pointsOf "RejudgeHall" ∈ AW := aw_of2 (i := 152) rfl rfl
theorem aw_438 : Cond.instanceMethod yX2_pointsOf ∈ AW := aw_of2 (i := 154) rfl rfl
theorem aw_439 : Cond.instantiable "RejudgeHall$Problem" 7 ∈ AW := aw_of2 (i := 155) rfl rfl
theorem aw_440 : Cond.code yX2_pointsOf prog_4_method_3_code 4 (some .int) ∈ AW := aw_of2 (i := 156) rfl rfl
theorem aw_441 : Cond.methodLink "RejudgeHallLaw" 46 yX7_rejudge ∈ AW := aw_of2 (i := 157) rfl rfl
theorem aw_442 : Cond.instanceMethod yX7_rejudge ∈ AW := aw_of2 (i := 158) rfl rfl
theorem aw_443 : Cond.selects "RejudgeHall" yX7_rejudge yX7_rejudge ∈ AW := aw_of2 (i := 159) rfl rfl
theorem aw_444 : Cond.code yX7_rejudge prog_1_method_14_code 6 (some .int) ∈ AW := aw_of2 (i := 160) rfl rfl
theorem aw_445 : Cond.methodLink "RejudgeHall" 131 yX7_problemAt ∈ AW := aw_of2 (i := 161) rfl rfl
theorem aw_447 : Cond.instanceMethod yX7_problemAt ∈ AW := aw_of2 (i := 163) rfl rfl
theorem aw_448 : Cond.code yX7_problemAt prog_1_method_24_code 2 (some (.object "RejudgeHall$Problem")) ∈ AW := aw_of2 (i := 164) rfl rfl
theorem aw_449 : Cond.methodLink "RejudgeHall" 135 yX7_needIndex ∈ AW := aw_of2 (i := 165) rfl rfl
theorem aw_450 : Cond.static yX7_needIndex ∈ AW := aw_of2 (i := 166) rfl rfl
theorem aw_451 : Cond.code yX7_needIndex prog_1_method_23_code 2 (none : Option Jvm.ClassFile.FieldType) ∈ AW := aw_of2 (i := 167) rfl rfl
theorem aw_452 : Cond.classLink "RejudgeHall" 177 "java/lang/IndexOutOfBoundsException" ∈ AW := aw_of2 (i := 168) rfl rfl
theorem aw_453 : Cond.instantiable "java/lang/IndexOutOfBoundsException" 6 ∈ AW := aw_of2 (i := 169) rfl rfl
theorem aw_454 : Cond.castable "java/lang/IndexOutOfBoundsException" "java/lang/IndexOutOfBoundsException" ∈ AW := aw_of2 (i := 170) rfl rfl
theorem aw_455 : Cond.selects "java/lang/IndexOutOfBoundsException" ⟨"java/lang/Throwable", "fillInStackTrace", "(I)Ljava/lang/Throwable;"⟩ ⟨"java/lang/Throwable", "fillInStackTrace", "(I)Ljava/lang/Throwable;"⟩ ∈ AW := aw_of2 (i := 171) rfl rfl
theorem aw_462 : Cond.methodLink "RejudgeHall" 181 ⟨"java/lang/IndexOutOfBoundsException", "<init>", "(Ljava/lang/String;)V"⟩ ∈ AW := aw_of2 (i := 178) rfl rfl
theorem aw_463 : Cond.instanceMethod ⟨"java/lang/IndexOutOfBoundsException", "<init>", "(Ljava/lang/String;)V"⟩ ∈ AW := aw_of2 (i := 179) rfl rfl
theorem aw_464 : Cond.code ⟨"java/lang/IndexOutOfBoundsException", "<init>", "(Ljava/lang/String;)V"⟩ prog_16_method_2_code 2 (none : Option Jvm.ClassFile.FieldType) ∈ AW := aw_of2 (i := 180) rfl rfl
theorem aw_465 : Cond.methodLink "java/lang/IndexOutOfBoundsException" 7 ⟨"java/lang/RuntimeException", "<init>", "(Ljava/lang/String;)V"⟩ ∈ AW := aw_of2 (i := 181) rfl rfl
theorem aw_468 : Cond.classLink "RejudgeHall" 113 "RejudgeHall$Problem" ∈ AW := aw_of2 (i := 184) rfl rfl
theorem aw_469 : Cond.methodLinkNest "RejudgeHall" 217 yX0_letWait "RejudgeHall" ∈ AW := aw_of2 (i := 185) rfl rfl
theorem aw_471 : Cond.instanceMethod yX0_letWait ∈ AW := aw_of2 (i := 187) rfl rfl
theorem aw_472 : Cond.code yX0_letWait prog_2_method_3_code 1 (none : Option Jvm.ClassFile.FieldType) ∈ AW := aw_of2 (i := 188) rfl rfl
theorem aw_473 : Cond.methodLink "RejudgeHallLaw" 49 yX7_entry ∈ AW := aw_of2 (i := 189) rfl rfl
theorem aw_474 : Cond.instanceMethod yX7_entry ∈ AW := aw_of2 (i := 190) rfl rfl
theorem aw_475 : Cond.selects "RejudgeHall" yX7_entry yX7_entry ∈ AW := aw_of2 (i := 191) rfl rfl
theorem aw_476 : Cond.code yX7_entry prog_1_method_15_code 4 (some .int) ∈ AW := aw_of2 (i := 192) rfl rfl
theorem aw_477 : Cond.methodLink "RejudgeHall" 220 yX7_entryAt ∈ AW := aw_of2 (i := 193) rfl rfl
theorem aw_479 : Cond.instanceMethod yX7_entryAt ∈ AW := aw_of2 (i := 195) rfl rfl
theorem aw_480 : Cond.code yX7_entryAt prog_1_method_25_code 2 (some (.object "RejudgeHall$Entry")) ∈ AW := aw_of2 (i := 196) rfl rfl
theorem aw_481 : Cond.methodLink "RejudgeHallLaw" 52 yX7_likeness ∈ AW := aw_of2 (i := 197) rfl rfl
theorem aw_482 : Cond.instanceMethod yX7_likeness ∈ AW := aw_of2 (i := 198) rfl rfl
theorem aw_483 : Cond.selects "RejudgeHall" yX7_likeness yX7_likeness ∈ AW := aw_of2 (i := 199) rfl rfl
theorem aw_484 : Cond.code yX7_likeness prog_1_method_16_code 6 (some .int) ∈ AW := aw_of2 (i := 200) rfl rfl
theorem aw_485 : Cond.methodLink "RejudgeHall" 234 yJ9_max_7cf53 ∈ AW := aw_of2 (i := 201) rfl rfl
theorem aw_486 : Cond.static yJ9_max_7cf53 ∈ AW := aw_of2 (i := 202) rfl rfl
theorem aw_487 : Cond.code yJ9_max_7cf53 prog_18_method_65_code 2 (some .int) ∈ AW := aw_of2 (i := 203) rfl rfl
theorem aw_488 : Cond.methodLink "RejudgeHall" 240 yX7_longestCommon ∈ AW := aw_of2 (i := 204) rfl rfl
theorem aw_490 : Cond.instanceMethod yX7_longestCommon ∈ AW := aw_of2 (i := 206) rfl rfl
theorem aw_491 : Cond.code yX7_longestCommon prog_1_method_33_code 7 (some .int) ∈ AW := aw_of2 (i := 207) rfl rfl
theorem aw_492 : Cond.methodLink "RejudgeHall" 322 yJ7_fill_53178 ∈ AW := aw_of2 (i := 208) rfl rfl
theorem aw_493 : Cond.static yJ7_fill_53178 ∈ AW := aw_of2 (i := 209) rfl rfl
theorem aw_494 : Cond.code yJ7_fill_53178 prog_26_method_103_code 4 (none : Option Jvm.ClassFile.FieldType) ∈ AW := aw_of2 (i := 210) rfl rfl
theorem aw_495 : Cond.methodLinkNest "RejudgeHall" 328 yX3_isAlikeAt "RejudgeHall" ∈ AW := aw_of2 (i := 211) rfl rfl
theorem aw_497 : Cond.instanceMethod yX3_isAlikeAt ∈ AW := aw_of2 (i := 213) rfl rfl
theorem aw_498 : Cond.code yX3_isAlikeAt prog_5_method_5_code 5 (some .boolean) ∈ AW := aw_of2 (i := 214) rfl rfl
theorem aw_499 : Cond.methodLink "RejudgeHall$Program" 28 yX3_has ∈ AW := aw_of2 (i := 215) rfl rfl
theorem aw_500 : Cond.methodLink "RejudgeHall" 332 yJ9_min_7cf53 ∈ AW := aw_of2 (i := 216) rfl rfl
theorem aw_501 : Cond.static yJ9_min_7cf53 ∈ AW := aw_of2 (i := 217) rfl rfl
theorem aw_502 : Cond.code yJ9_min_7cf53 prog_18_method_69_code 2 (some .int) ∈ AW := aw_of2 (i := 218) rfl rfl
theorem aw_503 : Cond.methodLink "RejudgeHallLaw" 110 yX7_reveal ∈ AW := aw_of2 (i := 219) rfl rfl
theorem aw_504 : Cond.instanceMethod yX7_reveal ∈ AW := aw_of2 (i := 220) rfl rfl
theorem aw_505 : Cond.selects "RejudgeHall" yX7_reveal yX7_reveal ∈ AW := aw_of2 (i := 221) rfl rfl
theorem aw_506 : Cond.code yX7_reveal prog_1_method_18_code 3 (some .int) ∈ AW := aw_of2 (i := 222) rfl rfl
theorem aw_507 : Cond.methodLink "RejudgeHall" 244 yX7_countVerdicts ∈ AW := aw_of2 (i := 223) rfl rfl
theorem aw_509 : Cond.instanceMethod yX7_countVerdicts ∈ AW := aw_of2 (i := 225) rfl rfl
theorem aw_510 : Cond.code yX7_countVerdicts prog_1_method_37_code 4 (none : Option Jvm.ClassFile.FieldType) ∈ AW := aw_of2 (i := 226) rfl rfl
theorem aw_511 : Cond.methodLinkNest "RejudgeHall" 270 yX5_wipe "RejudgeHall" ∈ AW := aw_of2 (i := 227) rfl rfl
theorem aw_513 : Cond.instanceMethod yX5_wipe ∈ AW := aw_of2 (i := 229) rfl rfl
theorem aw_514 : Cond.code yX5_wipe prog_7_method_2_code 2 (none : Option Jvm.ClassFile.FieldType) ∈ AW := aw_of2 (i := 230) rfl rfl
theorem aw_515 : Cond.methodLink "RejudgeHall$Standings" 28 yJ7_fill_53178 ∈ AW := aw_of2 (i := 231) rfl rfl
theorem aw_516 : Cond.methodLink "RejudgeHall" 338 yX7_isHidden ∈ AW := aw_of2 (i := 232) rfl rfl
theorem aw_518 : Cond.instanceMethod yX7_isHidden ∈ AW := aw_of2 (i := 234) rfl rfl
theorem aw_519 : Cond.code yX7_isHidden prog_1_method_36_code 2 (some .boolean) ∈ AW := aw_of2 (i := 235) rfl rfl
theorem aw_520 : Cond.methodLink "RejudgeHall" 335 yX7_isLate ∈ AW := aw_of2 (i := 236) rfl rfl
theorem aw_522 : Cond.instanceMethod yX7_isLate ∈ AW := aw_of2 (i := 238) rfl rfl
theorem aw_523 : Cond.code yX7_isLate prog_1_method_35_code 2 (some .boolean) ∈ AW := aw_of2 (i := 239) rfl rfl
theorem aw_524 : Cond.methodLink "RejudgeHall" 255 yX7_pairOf ∈ AW := aw_of3 (i := 0) rfl rfl
theorem aw_525 : Cond.static yX7_pairOf ∈ AW := aw_of3 (i := 1) rfl rfl
theorem aw_526 : Cond.code yX7_pairOf prog_1_method_34_code 2 (some .int) ∈ AW := aw_of3 (i := 2) rfl rfl
theorem aw_527 : Cond.methodLinkNest "RejudgeHall" 277 yX5_count "RejudgeHall" ∈ AW := aw_of3 (i := 3) rfl rfl
theorem aw_529 : Cond.instanceMethod yX5_count ∈ AW := aw_of3 (i := 5) rfl rfl
theorem aw_530 : Cond.code yX5_count prog_7_method_3_code 4 (none : Option Jvm.ClassFile.FieldType) ∈ AW := aw_of3 (i := 6) rfl rfl
theorem aw_531 : Cond.methodLinkNest "RejudgeHall$Standings" 49 yX7_pairOf "RejudgeHall" ∈ AW := aw_of3 (i := 7) rfl rfl
theorem aw_532 : Cond.methodLink "RejudgeHall$Standings" 56 yJ9_max_7cf53 ∈ AW := aw_of3 (i := 8) rfl rfl
theorem aw_533 : Cond.methodLink "RejudgeHall" 248 yX7_lowestHidden ∈ AW := aw_of3 (i := 9) rfl rfl
theorem aw_535 : Cond.instanceMethod yX7_lowestHidden ∈ AW := aw_of3 (i := 11) rfl rfl
theorem aw_536 : Cond.code yX7_lowestHidden prog_1_method_38_code 6 (some .int) ∈ AW := aw_of3 (i := 12) rfl rfl
theorem aw_537 : Cond.methodLinkNest "RejudgeHall" 251 yX5_isAhead "RejudgeHall" ∈ AW := aw_of3 (i := 13) rfl rfl
theorem aw_539 : Cond.instanceMethod yX5_isAhead ∈ AW := aw_of3 (i := 15) rfl rfl
theorem aw_540 : Cond.code yX5_isAhead prog_7_method_4_code 3 (some .boolean) ∈ AW := aw_of3 (i := 16) rfl rfl
theorem aw_541 : Cond.methodLink "RejudgeHallLaw" 60 yX7_board ∈ AW := aw_of3 (i := 17) rfl rfl
theorem aw_542 : Cond.instanceMethod yX7_board ∈ AW := aw_of3 (i := 18) rfl rfl
theorem aw_543 : Cond.selects "RejudgeHall" yX7_board yX7_board ∈ AW := aw_of3 (i := 19) rfl rfl
theorem aw_544 : Cond.code yX7_board prog_1_method_19_code 4 (some .int) ∈ AW := aw_of3 (i := 20) rfl rfl
theorem aw_545 : Cond.methodLinkNest "RejudgeHall" 258 yX5_placeOf "RejudgeHall" ∈ AW := aw_of3 (i := 21) rfl rfl
theorem aw_547 : Cond.instanceMethod yX5_placeOf ∈ AW := aw_of3 (i := 23) rfl rfl
theorem aw_548 : Cond.code yX5_placeOf prog_7_method_5_code 4 (some .int) ∈ AW := aw_of3 (i := 24) rfl rfl
theorem aw_549 : Cond.methodLink "RejudgeHall$Standings" 61 yX5_isAhead ∈ AW := aw_of3 (i := 25) rfl rfl
theorem aw_550 : Cond.methodLink "RejudgeHallLaw" 64 yX7_placeAnew ∈ AW := aw_of3 (i := 26) rfl rfl
theorem aw_551 : Cond.instanceMethod yX7_placeAnew ∈ AW := aw_of3 (i := 27) rfl rfl
theorem aw_552 : Cond.selects "RejudgeHall" yX7_placeAnew yX7_placeAnew ∈ AW := aw_of3 (i := 28) rfl rfl
theorem aw_553 : Cond.code yX7_placeAnew prog_1_method_20_code 4 (some .int) ∈ AW := aw_of3 (i := 29) rfl rfl
theorem aw_554 : Cond.methodLink "RejudgeHall" 273 yX7_passesAll ∈ AW := aw_of3 (i := 30) rfl rfl
theorem aw_556 : Cond.instanceMethod yX7_passesAll ∈ AW := aw_of3 (i := 32) rfl rfl
theorem aw_557 : Cond.code yX7_passesAll prog_1_method_30_code 4 (some .boolean) ∈ AW := aw_of3 (i := 33) rfl rfl
theorem aw_558 : Cond.methodLink "RejudgeHallLaw" 81 yL_act ∈ AW := aw_of3 (i := 34) rfl rfl
theorem aw_559 : Cond.static yL_act ∈ AW := aw_of3 (i := 35) rfl rfl
theorem aw_560 : Cond.codeWith yL_act method_3_code 6 (some .int) [(0, 257, 258, 71), (0, 257, 263, 74), (0, 257, 268, 77)] ∈ AW := aw_of3 (i := 36) rfl rfl
theorem aw_561 : Cond.classLink "RejudgeHallLaw" 71 "java/lang/IndexOutOfBoundsException" ∈ AW := aw_of3 (i := 37) rfl rfl
theorem aw_562 : Cond.classLink "RejudgeHallLaw" 74 "java/lang/IllegalArgumentException" ∈ AW := aw_of3 (i := 38) rfl rfl
theorem aw_563 : Cond.classLink "RejudgeHallLaw" 77 "java/lang/IllegalStateException" ∈ AW := aw_of3 (i := 39) rfl rfl
theorem aw_564 : Cond.methodLink "RejudgeHallLaw" 21 yX7_run ∈ AW := aw_of3 (i := 40) rfl rfl
theorem aw_565 : Cond.instanceMethod yX7_run ∈ AW := aw_of3 (i := 41) rfl rfl
theorem aw_566 : Cond.selects "RejudgeHall" yX7_run yX7_run ∈ AW := aw_of3 (i := 42) rfl rfl
theorem aw_567 : Cond.code yX7_run prog_1_method_5_code 4 (some .int) ∈ AW := aw_of3 (i := 43) rfl rfl
theorem aw_568 : Cond.methodLinkNest "RejudgeHall" 103 yX4_at "RejudgeHall" ∈ AW := aw_of3 (i := 44) rfl rfl
theorem aw_569 : Cond.methodLink "RejudgeHallLaw" 24 yX7_problem ∈ AW := aw_of3 (i := 45) rfl rfl
theorem aw_570 : Cond.instanceMethod yX7_problem ∈ AW := aw_of3 (i := 46) rfl rfl
theorem aw_571 : Cond.selects "RejudgeHall" yX7_problem yX7_problem ∈ AW := aw_of3 (i := 47) rfl rfl
theorem aw_572 : Cond.code yX7_problem prog_1_method_6_code 4 (some .int) ∈ AW := aw_of3 (i := 48) rfl rfl
theorem aw_574 : Cond.methodLinkNest "RejudgeHall" 115 yX2_init "RejudgeHall" ∈ AW := aw_of3 (i := 50) rfl rfl
theorem aw_575 : Cond.instanceMethod yX2_init ∈ AW := aw_of3 (i := 51) rfl rfl
theorem aw_576 : Cond.code yX2_init prog_4_method_1_code 4 (none : Option Jvm.ClassFile.FieldType) ∈ AW := aw_of3 (i := 52) rfl rfl
theorem aw_577 : Cond.methodLink "RejudgeHall$Problem" 3 ⟨"java/lang/Object", "<init>", "()V"⟩ ∈ AW := aw_of3 (i := 53) rfl rfl
theorem aw_578 : Cond.classLink "RejudgeHall$Problem" 9 "RejudgeHall$Program" ∈ AW := aw_of3 (i := 54) rfl rfl
theorem aw_579 : Cond.methodLinkNest "RejudgeHall$Problem" 11 yX3_init "RejudgeHall" ∈ AW := aw_of3 (i := 55) rfl rfl
theorem aw_580 : Cond.classLink "RejudgeHall$Problem" 18 "java/util/ArrayList" ∈ AW := aw_of3 (i := 56) rfl rfl
theorem aw_581 : Cond.methodLink "RejudgeHall$Problem" 20 yJx4a65c_init_da8c8 ∈ AW := aw_of3 (i := 57) rfl rfl
theorem aw_582 : Cond.methodLink "RejudgeHall$Problem" 42 yJ7_fill_53178 ∈ AW := aw_of3 (i := 58) rfl rfl
theorem aw_583 : Cond.fieldLink "RejudgeHall$Problem" 33 "RejudgeHall$Problem" "number" "I" ∈ AW := aw_of3 (i := 59) rfl rfl
theorem aw_584 : Cond.fieldLinkNest "RejudgeHall$Standings" 44 "RejudgeHall$Problem" "number" "I" "RejudgeHall" ∈ AW := aw_of3 (i := 60) rfl rfl
theorem aw_585 : Cond.fieldLinkNest "RejudgeHall" 128 "RejudgeHall$Problem" "number" "I" "RejudgeHall" ∈ AW := aw_of3 (i := 61) rfl rfl
theorem aw_586 : Cond.fieldLink "RejudgeHall$Problem" 36 "RejudgeHall$Problem" "limit" "I" ∈ AW := aw_of3 (i := 62) rfl rfl
theorem aw_587 : Cond.fieldLinkNest "RejudgeHall" 309 "RejudgeHall$Problem" "limit" "I" "RejudgeHall" ∈ AW := aw_of3 (i := 63) rfl rfl
theorem aw_588 : Cond.fieldLink "RejudgeHall$Problem" 12 "RejudgeHall$Problem" "solution" "LRejudgeHall$Program;" ∈ AW := aw_of3 (i := 64) rfl rfl
theorem aw_589 : Cond.fieldLinkNest "RejudgeHall" 117 "RejudgeHall$Problem" "solution" "LRejudgeHall$Program;" "RejudgeHall" ∈ AW := aw_of3 (i := 65) rfl rfl
theorem aw_590 : Cond.fieldLink "RejudgeHall$Problem" 21 "RejudgeHall$Problem" "trials" "Ljava/util/ArrayList;" ∈ AW := aw_of3 (i := 66) rfl rfl
theorem aw_591 : Cond.fieldLinkNest "RejudgeHall" 138 "RejudgeHall$Problem" "trials" "Ljava/util/ArrayList;" "RejudgeHall" ∈ AW := aw_of3 (i := 67) rfl rfl
theorem aw_592 : Cond.fieldLink "RejudgeHall$Problem" 25 "RejudgeHall$Problem" "points" "[I" ∈ AW := aw_of3 (i := 68) rfl rfl
theorem aw_593 : Cond.fieldLinkNest "RejudgeHall" 158 "RejudgeHall$Problem" "points" "[I" "RejudgeHall" ∈ AW := aw_of3 (i := 69) rfl rfl
theorem aw_594 : Cond.fieldLink "RejudgeHall$Problem" 39 "RejudgeHall$Problem" "checker" "I" ∈ AW := aw_of3 (i := 70) rfl rfl
theorem aw_595 : Cond.fieldLinkNest "RejudgeHall" 171 "RejudgeHall$Problem" "checker" "I" "RejudgeHall" ∈ AW := aw_of3 (i := 71) rfl rfl
theorem aw_596 : Cond.fieldLink "RejudgeHall$Problem" 29 "RejudgeHall$Problem" "version" "I" ∈ AW := aw_of3 (i := 72) rfl rfl
theorem aw_597 : Cond.fieldLinkNest "RejudgeHall" 174 "RejudgeHall$Problem" "version" "I" "RejudgeHall" ∈ AW := aw_of3 (i := 73) rfl rfl
theorem aw_613 : Cond.methodLinkNest "RejudgeHall" 120 yX3_takeFrom "RejudgeHall" ∈ AW := aw_of3 (i := 89) rfl rfl
theorem aw_615 : Cond.instanceMethod yX3_takeFrom ∈ AW := aw_of3 (i := 91) rfl rfl
theorem aw_616 : Cond.code yX3_takeFrom prog_5_method_3_code 2 (none : Option Jvm.ClassFile.FieldType) ∈ AW := aw_of3 (i := 92) rfl rfl
theorem aw_617 : Cond.methodLink "RejudgeHall$Program" 22 ⟨"java/lang/System", "arraycopy", "(Ljava/lang/Object;ILjava/lang/Object;II)V"⟩ ∈ AW := aw_of3 (i := 93) rfl rfl
theorem aw_618 : Cond.static ⟨"java/lang/System", "arraycopy", "(Ljava/lang/Object;ILjava/lang/Object;II)V"⟩ ∈ AW := aw_of3 (i := 94) rfl rfl
theorem aw_619 : Cond.native ⟨"java/lang/System", "arraycopy", "(Ljava/lang/Object;ILjava/lang/Object;II)V"⟩ ∈ AW := aw_of3 (i := 95) rfl rfl
theorem aw_620 : Cond.methodLink "RejudgeHall" 124 yJx4a65c_add_9ea2d ∈ AW := aw_of3 (i := 96) rfl rfl
theorem aw_621 : Cond.instanceMethod yJx4a65c_add_9ea2d ∈ AW := aw_of3 (i := 97) rfl rfl
theorem aw_622 : Cond.selects "java/util/ArrayList" yJx4a65c_add_9ea2d yJx4a65c_add_9ea2d ∈ AW := aw_of3 (i := 98) rfl rfl
theorem aw_623 : Cond.code yJx4a65c_add_9ea2d prog_25_method_25_code 2 (some .boolean) ∈ AW := aw_of3 (i := 99) rfl rfl
theorem aw_624 : Cond.methodLink "java/util/ArrayList" 131 yJx4a65c_add_72be8 ∈ AW := aw_of3 (i := 100) rfl rfl
theorem aw_626 : Cond.instanceMethod yJx4a65c_add_72be8 ∈ AW := aw_of3 (i := 102) rfl rfl
theorem aw_627 : Cond.code yJx4a65c_add_72be8 prog_25_method_24_code 4 (none : Option Jvm.ClassFile.FieldType) ∈ AW := aw_of3 (i := 103) rfl rfl
theorem aw_628 : Cond.methodLink "java/util/ArrayList" 129 yJx4a65c_grow_d5877 ∈ AW := aw_of3 (i := 104) rfl rfl
theorem aw_630 : Cond.instanceMethod yJx4a65c_grow_d5877 ∈ AW := aw_of3 (i := 106) rfl rfl
theorem aw_631 : Cond.code yJx4a65c_grow_d5877 prog_25_method_7_code 1 (some (.array (.object "java/lang/Object"))) ∈ AW := aw_of3 (i := 107) rfl rfl
theorem aw_632 : Cond.methodLink "java/util/ArrayList" 69 yJx4a65c_grow_92f84 ∈ AW := aw_of3 (i := 108) rfl rfl
theorem aw_634 : Cond.instanceMethod yJx4a65c_grow_92f84 ∈ AW := aw_of3 (i := 110) rfl rfl
theorem aw_635 : Cond.code yJx4a65c_grow_92f84 prog_25_method_6_code 4 (some (.array (.object "java/lang/Object"))) ∈ AW := aw_of3 (i := 111) rfl rfl
theorem aw_636 : Cond.methodLink "java/util/ArrayList" 73 yJ8_newLength_cabcc ∈ AW := aw_of3 (i := 112) rfl rfl
theorem aw_637 : Cond.static yJ8_newLength_cabcc ∈ AW := aw_of3 (i := 113) rfl rfl
theorem aw_638 : Cond.code yJ8_newLength_cabcc prog_32_method_27_code 4 (some .int) ∈ AW := aw_of3 (i := 114) rfl rfl
theorem aw_639 : Cond.methodLink "jdk/internal/util/ArraysSupport" 194 yJ9_max_7cf53 ∈ AW := aw_of3 (i := 115) rfl rfl
theorem aw_640 : Cond.constant "jdk/internal/util/ArraysSupport" 200 (2147483639 : Int32) ∈ AW := aw_of3 (i := 116) rfl rfl
theorem aw_641 : Cond.methodLink "jdk/internal/util/ArraysSupport" 201 yJ8_hugeLength_7cf53 ∈ AW := aw_of3 (i := 117) rfl rfl
theorem aw_642 : Cond.static yJ8_hugeLength_7cf53 ∈ AW := aw_of3 (i := 118) rfl rfl
theorem aw_643 : Cond.code yJ8_hugeLength_7cf53 prog_32_method_28_code 3 (some .int) ∈ AW := aw_of3 (i := 119) rfl rfl
theorem aw_644 : Cond.methodLink "java/util/ArrayList" 66 yJ7_copyOf_1904c ∈ AW := aw_of3 (i := 120) rfl rfl
theorem aw_645 : Cond.static yJ7_copyOf_1904c ∈ AW := aw_of3 (i := 121) rfl rfl
theorem aw_646 : Cond.code yJ7_copyOf_1904c prog_26_method_119_code 2 (some (.array (.object "java/lang/Object"))) ∈ AW := aw_of3 (i := 122) rfl rfl
theorem aw_647 : Cond.methodLink "java/util/Arrays" 86 ⟨"java/lang/Object", "getClass", "()Ljava/lang/Class;"⟩ ∈ AW := aw_of3 (i := 123) rfl rfl
theorem aw_648 : Cond.instanceMethod ⟨"java/lang/Object", "getClass", "()Ljava/lang/Class;"⟩ ∈ AW := aw_of3 (i := 124) rfl rfl
theorem aw_650 : Cond.selects "RejudgeHall" ⟨"java/lang/Object", "getClass", "()Ljava/lang/Class;"⟩ ⟨"java/lang/Object", "getClass", "()Ljava/lang/Class;"⟩ ∈ AW := aw_of3 (i := 126) rfl rfl
theorem aw_651 : Cond.selects "RejudgeHall$Entry" ⟨"java/lang/Object", "getClass", "()Ljava/lang/Class;"⟩ ⟨"java/lang/Object", "getClass", "()Ljava/lang/Class;"⟩ ∈ AW := aw_of3 (i := 127) rfl rfl
theorem aw_652 : Cond.selects "RejudgeHall$Machine" ⟨"java/lang/Object", "getClass", "()Ljava/lang/Class;"⟩ ⟨"java/lang/Object", "getClass", "()Ljava/lang/Class;"⟩ ∈ AW := aw_of3 (i := 128) rfl rfl
theorem aw_653 : Cond.selects "RejudgeHall$Problem" ⟨"java/lang/Object", "getClass", "()Ljava/lang/Class;"⟩ ⟨"java/lang/Object", "getClass", "()Ljava/lang/Class;"⟩ ∈ AW := aw_of3 (i := 129) rfl rfl
theorem aw_654 : Cond.selects "RejudgeHall$Program" ⟨"java/lang/Object", "getClass", "()Ljava/lang/Class;"⟩ ⟨"java/lang/Object", "getClass", "()Ljava/lang/Class;"⟩ ∈ AW := aw_of3 (i := 130) rfl rfl
theorem aw_655 : Cond.selects "RejudgeHall$Row" ⟨"java/lang/Object", "getClass", "()Ljava/lang/Class;"⟩ ⟨"java/lang/Object", "getClass", "()Ljava/lang/Class;"⟩ ∈ AW := aw_of3 (i := 131) rfl rfl
theorem aw_656 : Cond.selects "RejudgeHall$Standings" ⟨"java/lang/Object", "getClass", "()Ljava/lang/Class;"⟩ ⟨"java/lang/Object", "getClass", "()Ljava/lang/Class;"⟩ ∈ AW := aw_of3 (i := 132) rfl rfl
theorem aw_657 : Cond.selects "RejudgeHall$Trial" ⟨"java/lang/Object", "getClass", "()Ljava/lang/Class;"⟩ ⟨"java/lang/Object", "getClass", "()Ljava/lang/Class;"⟩ ∈ AW := aw_of3 (i := 133) rfl rfl
theorem aw_658 : Cond.selects "java/lang/IllegalArgumentException" ⟨"java/lang/Object", "getClass", "()Ljava/lang/Class;"⟩ ⟨"java/lang/Object", "getClass", "()Ljava/lang/Class;"⟩ ∈ AW := aw_of3 (i := 134) rfl rfl
theorem aw_659 : Cond.selects "java/lang/IllegalStateException" ⟨"java/lang/Object", "getClass", "()Ljava/lang/Class;"⟩ ⟨"java/lang/Object", "getClass", "()Ljava/lang/Class;"⟩ ∈ AW := aw_of3 (i := 135) rfl rfl
theorem aw_660 : Cond.selects "java/lang/IndexOutOfBoundsException" ⟨"java/lang/Object", "getClass", "()Ljava/lang/Class;"⟩ ⟨"java/lang/Object", "getClass", "()Ljava/lang/Class;"⟩ ∈ AW := aw_of3 (i := 136) rfl rfl
theorem aw_661 : Cond.selects "java/util/ArrayList" ⟨"java/lang/Object", "getClass", "()Ljava/lang/Class;"⟩ ⟨"java/lang/Object", "getClass", "()Ljava/lang/Class;"⟩ ∈ AW := aw_of3 (i := 137) rfl rfl
theorem aw_662 : Cond.native ⟨"java/lang/Object", "getClass", "()Ljava/lang/Class;"⟩ ∈ AW := aw_of3 (i := 138) rfl rfl
theorem aw_663 : Cond.methodLink "java/util/Arrays" 300 yJ7_copyOf_6403c ∈ AW := aw_of3 (i := 139) rfl rfl
theorem aw_664 : Cond.static yJ7_copyOf_6403c ∈ AW := aw_of3 (i := 140) rfl rfl
theorem aw_665 : Cond.code yJ7_copyOf_6403c prog_26_method_120_code 4 (some (.array (.object "java/lang/Object"))) ∈ AW := aw_of3 (i := 141) rfl rfl
theorem aw_666 : Cond.classLink "java/util/Arrays" 110 "[Ljava/lang/Object;" ∈ AW := aw_of3 (i := 142) rfl rfl
theorem aw_668 : Cond.classLink "java/util/Arrays" 2 "java/lang/Object" ∈ AW := aw_of3 (i := 144) rfl rfl
theorem aw_669 : Cond.methodLink "java/util/Arrays" 304 yJ9_min_7cf53 ∈ AW := aw_of3 (i := 145) rfl rfl
theorem aw_670 : Cond.methodLink "java/util/Arrays" 150 ⟨"java/lang/System", "arraycopy", "(Ljava/lang/Object;ILjava/lang/Object;II)V"⟩ ∈ AW := aw_of3 (i := 146) rfl rfl
theorem aw_671 : Cond.methodLink "java/util/ArrayList" 79 yJ9_max_7cf53 ∈ AW := aw_of3 (i := 147) rfl rfl
theorem aw_672 : Cond.classLink "java/util/ArrayList" 7 "java/lang/Object" ∈ AW := aw_of3 (i := 148) rfl rfl
theorem aw_673 : Cond.methodLink "RejudgeHallLaw" 27 yX7_test ∈ AW := aw_of3 (i := 149) rfl rfl
theorem aw_674 : Cond.instanceMethod yX7_test ∈ AW := aw_of3 (i := 150) rfl rfl
theorem aw_675 : Cond.selects "RejudgeHall" yX7_test yX7_test ∈ AW := aw_of3 (i := 151) rfl rfl
theorem aw_676 : Cond.code yX7_test prog_1_method_7_code 4 (some .int) ∈ AW := aw_of3 (i := 152) rfl rfl
theorem aw_678 : Cond.methodLink "RejudgeHall" 143 yX7_findsAnswer ∈ AW := aw_of3 (i := 154) rfl rfl
theorem aw_680 : Cond.instanceMethod yX7_findsAnswer ∈ AW := aw_of3 (i := 156) rfl rfl
theorem aw_681 : Cond.code yX7_findsAnswer prog_1_method_26_code 3 (some .boolean) ∈ AW := aw_of3 (i := 157) rfl rfl
theorem aw_683 : Cond.instantiable "RejudgeHall$Trial" 3 ∈ AW := aw_of3 (i := 159) rfl rfl
theorem aw_684 : Cond.methodLinkNest "RejudgeHall" 151 yX6_init "RejudgeHall" ∈ AW := aw_of3 (i := 160) rfl rfl
theorem aw_685 : Cond.instanceMethod yX6_init ∈ AW := aw_of3 (i := 161) rfl rfl
theorem aw_686 : Cond.code yX6_init prog_8_method_1_code 4 (none : Option Jvm.ClassFile.FieldType) ∈ AW := aw_of3 (i := 162) rfl rfl
theorem aw_687 : Cond.methodLink "RejudgeHall$Trial" 1 ⟨"java/lang/Object", "<init>", "()V"⟩ ∈ AW := aw_of3 (i := 163) rfl rfl
theorem aw_688 : Cond.classLink "RejudgeHall$Trial" 7 "RejudgeHall$Row" ∈ AW := aw_of3 (i := 164) rfl rfl
theorem aw_689 : Cond.methodLinkNest "RejudgeHall$Trial" 9 yX4_init "RejudgeHall" ∈ AW := aw_of3 (i := 165) rfl rfl
theorem aw_690 : Cond.methodLinkNest "RejudgeHall$Trial" 19 yX4_copyFrom "RejudgeHall" ∈ AW := aw_of3 (i := 166) rfl rfl
theorem aw_692 : Cond.instanceMethod yX4_copyFrom ∈ AW := aw_of3 (i := 168) rfl rfl
theorem aw_693 : Cond.code yX4_copyFrom prog_6_method_6_code 2 (none : Option Jvm.ClassFile.FieldType) ∈ AW := aw_of3 (i := 169) rfl rfl
theorem aw_694 : Cond.methodLink "RejudgeHall$Row" 19 ⟨"java/lang/System", "arraycopy", "(Ljava/lang/Object;ILjava/lang/Object;II)V"⟩ ∈ AW := aw_of3 (i := 170) rfl rfl
theorem aw_695 : Cond.fieldLink "RejudgeHall$Trial" 10 "RejudgeHall$Trial" "input" "LRejudgeHall$Row;" ∈ AW := aw_of3 (i := 171) rfl rfl
theorem aw_696 : Cond.fieldLinkNest "RejudgeHall" 302 "RejudgeHall$Trial" "input" "LRejudgeHall$Row;" "RejudgeHall" ∈ AW := aw_of3 (i := 172) rfl rfl
theorem aw_697 : Cond.fieldLink "RejudgeHall$Trial" 16 "RejudgeHall$Trial" "answer" "LRejudgeHall$Row;" ∈ AW := aw_of3 (i := 173) rfl rfl
theorem aw_698 : Cond.fieldLinkNest "RejudgeHall" 186 "RejudgeHall$Trial" "answer" "LRejudgeHall$Row;" "RejudgeHall" ∈ AW := aw_of3 (i := 174) rfl rfl
theorem aw_699 : Cond.fieldLink "RejudgeHall$Trial" 23 "RejudgeHall$Trial" "group" "I" ∈ AW := aw_of3 (i := 175) rfl rfl
theorem aw_700 : Cond.fieldLinkNest "RejudgeHall" 316 "RejudgeHall$Trial" "group" "I" "RejudgeHall" ∈ AW := aw_of3 (i := 176) rfl rfl
theorem aw_708 : Cond.methodLinkNest "RejudgeHall" 154 yX2_addTrial "RejudgeHall" ∈ AW := aw_of3 (i := 184) rfl rfl
theorem aw_710 : Cond.instanceMethod yX2_addTrial ∈ AW := aw_of3 (i := 186) rfl rfl
theorem aw_711 : Cond.code yX2_addTrial prog_4_method_2_code 2 (none : Option Jvm.ClassFile.FieldType) ∈ AW := aw_of3 (i := 187) rfl rfl
theorem aw_712 : Cond.methodLink "RejudgeHall$Problem" 48 yJx4a65c_add_9ea2d ∈ AW := aw_of3 (i := 188) rfl rfl
theorem aw_713 : Cond.methodLink "RejudgeHallLaw" 30 yX7_points ∈ AW := aw_of3 (i := 189) rfl rfl
theorem aw_714 : Cond.instanceMethod yX7_points ∈ AW := aw_of3 (i := 190) rfl rfl
theorem aw_715 : Cond.selects "RejudgeHall" yX7_points yX7_points ∈ AW := aw_of3 (i := 191) rfl rfl
theorem aw_716 : Cond.code yX7_points prog_1_method_8_code 6 (some .int) ∈ AW := aw_of3 (i := 192) rfl rfl
theorem aw_717 : Cond.methodLink "RejudgeHallLaw" 34 yX7_mend ∈ AW := aw_of3 (i := 193) rfl rfl
theorem aw_718 : Cond.instanceMethod yX7_mend ∈ AW := aw_of3 (i := 194) rfl rfl
theorem aw_719 : Cond.selects "RejudgeHall" yX7_mend yX7_mend ∈ AW := aw_of3 (i := 195) rfl rfl
theorem aw_720 : Cond.code yX7_mend prog_1_method_9_code 4 (some .int) ∈ AW := aw_of3 (i := 196) rfl rfl
theorem aw_721 : Cond.methodLink "RejudgeHall" 161 yX7_findsAllAnswers ∈ AW := aw_of3 (i := 197) rfl rfl
theorem aw_723 : Cond.instanceMethod yX7_findsAllAnswers ∈ AW := aw_of3 (i := 199) rfl rfl
theorem aw_724 : Cond.code yX7_findsAllAnswers prog_1_method_27_code 4 (some .boolean) ∈ AW := aw_of3 (i := 200) rfl rfl
theorem aw_726 : Cond.methodLink "RejudgeHall" 167 yX7_renewAnswers ∈ AW := aw_of3 (i := 202) rfl rfl
theorem aw_728 : Cond.instanceMethod yX7_renewAnswers ∈ AW := aw_of3 (i := 204) rfl rfl
theorem aw_729 : Cond.code yX7_renewAnswers prog_1_method_28_code 4 (none : Option Jvm.ClassFile.FieldType) ∈ AW := aw_of3 (i := 205) rfl rfl
theorem aw_730 : Cond.methodLinkNest "RejudgeHall" 305 yX4_copyFrom "RejudgeHall" ∈ AW := aw_of3 (i := 206) rfl rfl
theorem aw_731 : Cond.methodLink "RejudgeHallLaw" 37 yX7_answer ∈ AW := aw_of3 (i := 207) rfl rfl
theorem aw_732 : Cond.instanceMethod yX7_answer ∈ AW := aw_of3 (i := 208) rfl rfl
theorem aw_733 : Cond.selects "RejudgeHall" yX7_answer yX7_answer ∈ AW := aw_of3 (i := 209) rfl rfl
theorem aw_734 : Cond.code yX7_answer prog_1_method_10_code 5 (some .int) ∈ AW := aw_of3 (i := 210) rfl rfl
theorem aw_736 : Cond.methodLink "RejudgeHallLaw" 40 yX7_enter ∈ AW := aw_of3 (i := 212) rfl rfl
theorem aw_737 : Cond.instanceMethod yX7_enter ∈ AW := aw_of3 (i := 213) rfl rfl
theorem aw_738 : Cond.selects "RejudgeHall" yX7_enter yX7_enter ∈ AW := aw_of3 (i := 214) rfl rfl
theorem aw_739 : Cond.code yX7_enter prog_1_method_11_code 5 (some .int) ∈ AW := aw_of3 (i := 215) rfl rfl
theorem aw_741 : Cond.methodLinkNest "RejudgeHall" 193 yX0_init "RejudgeHall" ∈ AW := aw_of3 (i := 217) rfl rfl
theorem aw_742 : Cond.instanceMethod yX0_init ∈ AW := aw_of3 (i := 218) rfl rfl
theorem aw_743 : Cond.code yX0_init prog_2_method_1_code 4 (none : Option Jvm.ClassFile.FieldType) ∈ AW := aw_of3 (i := 219) rfl rfl
theorem aw_744 : Cond.methodLink "RejudgeHall$Entry" 3 ⟨"java/lang/Object", "<init>", "()V"⟩ ∈ AW := aw_of3 (i := 220) rfl rfl
theorem aw_745 : Cond.classLink "RejudgeHall$Entry" 9 "RejudgeHall$Program" ∈ AW := aw_of3 (i := 221) rfl rfl
theorem aw_746 : Cond.methodLinkNest "RejudgeHall$Entry" 11 yX3_init "RejudgeHall" ∈ AW := aw_of3 (i := 222) rfl rfl
theorem aw_747 : Cond.fieldLink "RejudgeHall$Entry" 31 "RejudgeHall$Entry" "team" "I" ∈ AW := aw_of3 (i := 223) rfl rfl
theorem aw_748 : Cond.fieldLinkNest "RejudgeHall$Standings" 34 "RejudgeHall$Entry" "team" "I" "RejudgeHall" ∈ AW := aw_of3 (i := 224) rfl rfl
theorem aw_749 : Cond.fieldLinkNest "RejudgeHall" 205 "RejudgeHall$Entry" "team" "I" "RejudgeHall" ∈ AW := aw_of3 (i := 225) rfl rfl
theorem aw_750 : Cond.fieldLink "RejudgeHall$Entry" 34 "RejudgeHall$Entry" "problem" "LRejudgeHall$Problem;" ∈ AW := aw_of3 (i := 226) rfl rfl
theorem aw_751 : Cond.fieldLinkNest "RejudgeHall$Standings" 40 "RejudgeHall$Entry" "problem" "LRejudgeHall$Problem;" "RejudgeHall" ∈ AW := aw_of3 (i := 227) rfl rfl
theorem aw_752 : Cond.fieldLinkNest "RejudgeHall" 212 "RejudgeHall$Entry" "problem" "LRejudgeHall$Problem;" "RejudgeHall" ∈ AW := aw_of3 (i := 228) rfl rfl
theorem aw_753 : Cond.fieldLink "RejudgeHall$Entry" 38 "RejudgeHall$Entry" "minute" "I" ∈ AW := aw_of3 (i := 229) rfl rfl
theorem aw_754 : Cond.fieldLinkNest "RejudgeHall$Standings" 53 "RejudgeHall$Entry" "minute" "I" "RejudgeHall" ∈ AW := aw_of3 (i := 230) rfl rfl
theorem aw_755 : Cond.fieldLinkNest "RejudgeHall" 233 "RejudgeHall$Entry" "minute" "I" "RejudgeHall" ∈ AW := aw_of3 (i := 231) rfl rfl
theorem aw_756 : Cond.fieldLink "RejudgeHall$Entry" 12 "RejudgeHall$Entry" "program" "LRejudgeHall$Program;" ∈ AW := aw_of3 (i := 232) rfl rfl
theorem aw_757 : Cond.fieldLinkNest "RejudgeHall" 196 "RejudgeHall$Entry" "program" "LRejudgeHall$Program;" "RejudgeHall" ∈ AW := aw_of3 (i := 233) rfl rfl
theorem aw_758 : Cond.fieldLink "RejudgeHall$Entry" 18 "RejudgeHall$Entry" "verdict" "I" ∈ AW := aw_of3 (i := 234) rfl rfl
theorem aw_759 : Cond.fieldLinkNest "RejudgeHall" 224 "RejudgeHall$Entry" "verdict" "I" "RejudgeHall" ∈ AW := aw_of3 (i := 235) rfl rfl
theorem aw_760 : Cond.fieldLink "RejudgeHall$Entry" 22 "RejudgeHall$Entry" "failedTest" "I" ∈ AW := aw_of3 (i := 236) rfl rfl
theorem aw_761 : Cond.fieldLinkNest "RejudgeHall" 227 "RejudgeHall$Entry" "failedTest" "I" "RejudgeHall" ∈ AW := aw_of3 (i := 237) rfl rfl
theorem aw_762 : Cond.fieldLink "RejudgeHall$Entry" 25 "RejudgeHall$Entry" "score" "I" ∈ AW := aw_of3 (i := 238) rfl rfl
theorem aw_763 : Cond.fieldLinkNest "RejudgeHall" 230 "RejudgeHall$Entry" "score" "I" "RejudgeHall" ∈ AW := aw_of3 (i := 239) rfl rfl
theorem aw_764 : Cond.fieldLink "RejudgeHall$Entry" 28 "RejudgeHall$Entry" "version" "I" ∈ AW := aw_of4 (i := 0) rfl rfl
theorem aw_765 : Cond.fieldLinkNest "RejudgeHall" 216 "RejudgeHall$Entry" "version" "I" "RejudgeHall" ∈ AW := aw_of4 (i := 1) rfl rfl
theorem aw_783 : Cond.methodLink "RejudgeHallLaw" 55 yL_freeze ∈ AW := aw_of4 (i := 19) rfl rfl
theorem aw_784 : Cond.static yL_freeze ∈ AW := aw_of4 (i := 20) rfl rfl
theorem aw_785 : Cond.code yL_freeze method_2_code 2 (some .int) ∈ AW := aw_of4 (i := 21) rfl rfl
theorem aw_786 : Cond.methodLink "RejudgeHallLaw" 7 yX7_freeze ∈ AW := aw_of4 (i := 22) rfl rfl
theorem aw_787 : Cond.instanceMethod yX7_freeze ∈ AW := aw_of4 (i := 23) rfl rfl
theorem aw_788 : Cond.selects "RejudgeHall" yX7_freeze yX7_freeze ∈ AW := aw_of4 (i := 24) rfl rfl
theorem aw_789 : Cond.code yX7_freeze prog_1_method_17_code 3 (none : Option Jvm.ClassFile.FieldType) ∈ AW := aw_of4 (i := 25) rfl rfl
theorem aw_790 : Cond.methodLink "RejudgeHallLaw" 67 yX7_hack ∈ AW := aw_of4 (i := 26) rfl rfl
theorem aw_791 : Cond.instanceMethod yX7_hack ∈ AW := aw_of4 (i := 27) rfl rfl
theorem aw_792 : Cond.selects "RejudgeHall" yX7_hack yX7_hack ∈ AW := aw_of4 (i := 28) rfl rfl
theorem aw_793 : Cond.code yX7_hack prog_1_method_21_code 6 (some .boolean) ∈ AW := aw_of4 (i := 29) rfl rfl
theorem aw_794 : Cond.methodLink "RejudgeHall" 281 yX7_hasSolved ∈ AW := aw_of4 (i := 30) rfl rfl
theorem aw_796 : Cond.instanceMethod yX7_hasSolved ∈ AW := aw_of4 (i := 32) rfl rfl
theorem aw_797 : Cond.code yX7_hasSolved prog_1_method_32_code 5 (some .boolean) ∈ AW := aw_of4 (i := 33) rfl rfl
theorem aw_801 : Cond.constant "RejudgeHallLaw" 73 (-7000001 : Int32) ∈ AW := aw_of4 (i := 37) rfl rfl
theorem aw_802 : Cond.constant "RejudgeHallLaw" 76 (-7000002 : Int32) ∈ AW := aw_of4 (i := 38) rfl rfl
theorem aw_803 : Cond.constant "RejudgeHallLaw" 79 (-7000003 : Int32) ∈ AW := aw_of4 (i := 39) rfl rfl
theorem aw_804 : Cond.methodLink "RejudgeHallLaw" 99 yL_refuses ∈ AW := aw_of4 (i := 40) rfl rfl
theorem aw_805 : Cond.static yL_refuses ∈ AW := aw_of4 (i := 41) rfl rfl
theorem aw_806 : Cond.code yL_refuses method_4_code 14 (some .boolean) ∈ AW := aw_of4 (i := 42) rfl rfl
theorem aw_807 : Cond.constant "RejudgeHallLaw" 80 (2147483647 : Int32) ∈ AW := aw_of4 (i := 43) rfl rfl
theorem aw_808 : Cond.methodLink "RejudgeHallLaw" 130 yL_contest ∈ AW := aw_of4 (i := 44) rfl rfl
theorem aw_809 : Cond.static yL_contest ∈ AW := aw_of4 (i := 45) rfl rfl
theorem aw_810 : Cond.code yL_contest method_10_code 1 (some .boolean) ∈ AW := aw_of4 (i := 46) rfl rfl
theorem aw_811 : Cond.methodLink "RejudgeHallLaw" 103 yL_machine ∈ AW := aw_of4 (i := 47) rfl rfl
theorem aw_812 : Cond.static yL_machine ∈ AW := aw_of4 (i := 48) rfl rfl
theorem aw_813 : Cond.code yL_machine method_9_code 3 (some .boolean) ∈ AW := aw_of4 (i := 49) rfl rfl
theorem aw_814 : Cond.methodLink "RejudgeHallLaw" 86 yL_runs ∈ AW := aw_of4 (i := 50) rfl rfl
theorem aw_815 : Cond.static yL_runs ∈ AW := aw_of4 (i := 51) rfl rfl
theorem aw_816 : Cond.code yL_runs method_6_code 7 (some .boolean) ∈ AW := aw_of4 (i := 52) rfl rfl
theorem aw_817 : Cond.methodLink "RejudgeHallLaw" 90 yL_codes ∈ AW := aw_of4 (i := 53) rfl rfl
theorem aw_818 : Cond.static yL_codes ∈ AW := aw_of4 (i := 54) rfl rfl
theorem aw_819 : Cond.code yL_codes method_5_code 6 (some .int) ∈ AW := aw_of4 (i := 55) rfl rfl
theorem aw_820 : Cond.constant "RejudgeHallLaw" 98 (5555555 : Int32) ∈ AW := aw_of4 (i := 56) rfl rfl
theorem aw_821 : Cond.methodLink "RejudgeHallLaw" 113 yL_entry ∈ AW := aw_of4 (i := 57) rfl rfl
theorem aw_822 : Cond.static yL_entry ∈ AW := aw_of4 (i := 58) rfl rfl
theorem aw_823 : Cond.code yL_entry method_7_code 6 (some .boolean) ∈ AW := aw_of4 (i := 59) rfl rfl
theorem aw_824 : Cond.methodLink "RejudgeHallLaw" 116 yL_board ∈ AW := aw_of4 (i := 60) rfl rfl
theorem aw_825 : Cond.static yL_board ∈ AW := aw_of4 (i := 61) rfl rfl
theorem aw_826 : Cond.code yL_board method_8_code 7 (some .boolean) ∈ AW := aw_of4 (i := 62) rfl rfl
theorem aw_827 : Cond.methodLink "RejudgeHallLaw" 119 yL_boards ∈ AW := aw_of4 (i := 63) rfl rfl
theorem aw_828 : Cond.static yL_boards ∈ AW := aw_of4 (i := 64) rfl rfl
theorem aw_829 : Cond.code yL_boards method_11_code 2 (some .boolean) ∈ AW := aw_of4 (i := 65) rfl rfl
theorem aw_830 : Cond.methodLink "RejudgeHallLaw" 123 yL_tables ∈ AW := aw_of4 (i := 66) rfl rfl
theorem aw_831 : Cond.static yL_tables ∈ AW := aw_of4 (i := 67) rfl rfl
theorem aw_832 : Cond.code yL_tables method_12_code 2 (some .boolean) ∈ AW := aw_of4 (i := 68) rfl rfl
theorem aw_833 : Cond.constant "RejudgeHallLaw" 129 (99050 : Int32) ∈ AW := aw_of4 (i := 69) rfl rfl
theorem aw_834 : Cond.methodLink "RejudgeHallLaw" 126 yL_most ∈ AW := aw_of4 (i := 70) rfl rfl
theorem aw_835 : Cond.static yL_most ∈ AW := aw_of4 (i := 71) rfl rfl
theorem aw_836 : Cond.code yL_most method_13_code 2 (some .boolean) ∈ AW := aw_of4 (i := 72) rfl rfl
theorem aw_838 : Cond.castable "RejudgeHall" "java/lang/Object" ∈ AW := aw_of4 (i := 74) rfl rfl
theorem aw_839 : Cond.castable "RejudgeHall$Program" "java/lang/Object" ∈ AW := aw_of4 (i := 75) rfl rfl
theorem aw_840 : Cond.castable "RejudgeHall$Row" "java/lang/Object" ∈ AW := aw_of4 (i := 76) rfl rfl
theorem aw_841 : Cond.castable "RejudgeHall$Machine" "java/lang/Object" ∈ AW := aw_of4 (i := 77) rfl rfl
theorem aw_842 : Cond.castable "java/util/ArrayList" "java/lang/Object" ∈ AW := aw_of4 (i := 78) rfl rfl
theorem aw_843 : Cond.castable "RejudgeHall$Standings" "java/lang/Object" ∈ AW := aw_of4 (i := 79) rfl rfl
theorem aw_844 : Cond.castable "java/lang/IllegalArgumentException" "java/lang/Object" ∈ AW := aw_of4 (i := 80) rfl rfl
theorem aw_845 : Cond.castable "java/lang/IllegalStateException" "java/lang/Object" ∈ AW := aw_of4 (i := 81) rfl rfl
theorem aw_846 : Cond.castable "RejudgeHall$Problem" "java/lang/Object" ∈ AW := aw_of4 (i := 82) rfl rfl
theorem aw_847 : Cond.castable "java/lang/IndexOutOfBoundsException" "java/lang/Object" ∈ AW := aw_of4 (i := 83) rfl rfl
theorem aw_848 : Cond.castable "RejudgeHall$Trial" "java/lang/Object" ∈ AW := aw_of4 (i := 84) rfl rfl
theorem aw_849 : Cond.castable "RejudgeHall$Entry" "java/lang/Object" ∈ AW := aw_of4 (i := 85) rfl rfl
theorem aw_850 : Cond.castable "java/lang/Throwable" "java/lang/Object" ∈ AW := aw_of4 (i := 86) rfl rfl
theorem aw_851 : Cond.castable "java/lang/String" "java/lang/Object" ∈ AW := aw_of4 (i := 87) rfl rfl
theorem aw_853 : Cond.selects "[Ljava/lang/Object;" ⟨"java/lang/Object", "getClass", "()Ljava/lang/Class;"⟩ ⟨"java/lang/Object", "getClass", "()Ljava/lang/Class;"⟩ ∈ AW := aw_of4 (i := 89) rfl rfl
theorem aw_854 : Cond.declares ⟨"java/lang/Object", "getClass", "()Ljava/lang/Class;"⟩ ∈ AW := aw_of4 (i := 90) rfl rfl
theorem aw_855 : Cond.castable "[I" "java/lang/Object" ∈ AW := aw_of4 (i := 91) rfl rfl
theorem aw_856 : Cond.castable "[Z" "java/lang/Object" ∈ AW := aw_of4 (i := 92) rfl rfl
theorem aw_857 : Cond.castable "[B" "java/lang/Object" ∈ AW := aw_of4 (i := 93) rfl rfl
theorem aw_858 : Cond.castable "[Ljava/lang/Object;" "java/lang/Object" ∈ AW := aw_of4 (i := 94) rfl rfl
theorem aw_list {ws : List Cond} (is : List Nat) (h : ws = is.filterMap (fun i => lw_tbl[i]?)) (hm : ws.all mvW = true) : ∀ w ∈ ws, w ∈ AW := by
  intro w hw
  have h1 := List.all_eq_true.mp hm w hw
  rw [h] at hw
  obtain ⟨i, -, hi⟩ := List.mem_filterMap.mp hw
  exact aw_of hi h1
theorem ck_0 : Cls 0 RJx4a65c TJx4a65c tyJx4a65c := ⟨rfl, aw_list [161, 157, 159] (by decide +kernel) rfl, tyJx4a65c_ok, nmJx4a65c⟩
theorem ck_1 : Cls 1 RX0 TX0 tyX0 := ⟨rfl, aw_list [766, 768, 770, 772, 774, 776, 778, 780] (by decide +kernel) rfl, tyX0_ok, nmX0⟩
theorem ck_2 : Cls 2 RX1 TX1 tyX1 := ⟨rfl, aw_list [127, 129, 131, 133, 135] (by decide +kernel) rfl, tyX1_ok, nmX1⟩
theorem ck_3 : Cls 3 RX2 TX2 tyX2 := ⟨rfl, aw_list [598, 600, 602, 604, 606, 608, 610] (by decide +kernel) rfl, tyX2_ok, nmX2⟩
theorem ck_4 : Cls 4 RX3 TX3 tyX3 := ⟨rfl, aw_list [89, 91, 93] (by decide +kernel) rfl, tyX3_ok, nmX3⟩
theorem ck_5 : Cls 5 RX4 TX4 tyX4 := ⟨rfl, aw_list [107, 109] (by decide +kernel) rfl, tyX4_ok, nmX4⟩
theorem ck_6 : Cls 6 RX5 TX5 tyX5 := ⟨rfl, aw_list [178, 180, 182, 184, 186] (by decide +kernel) rfl, tyX5_ok, nmX5⟩
theorem ck_7 : Cls 7 RX6 TX6 tyX6 := ⟨rfl, aw_list [701, 703, 705] (by decide +kernel) rfl, tyX6_ok, nmX6⟩
theorem ck_8 : Cls 8 RX7 TX7 tyX7 := ⟨rfl, aw_list [202, 204, 206, 208, 210, 212, 214, 216, 218, 220, 222, 224] (by decide +kernel) rfl, tyX7_ok, nmX7⟩
