-- ===== PART A: goes FIRST, ahead of the names: the tables' words, and 'selects' of the private methods out of them =====
/-- a private method of a class that the tables say can be made, by its rows of tables_1 -/
def lw_okq (q : MethodName × Nat) : Prop := (q.1.cls ≠ "java/lang/invoke/MethodHandle" ∧ q.1.cls ≠ "java/lang/invoke/VarHandle") ∧ Cond.instantiable q.1.cls q.2 ∈ tables_1 ∧ Cond.privateMethod q.1 ∈ tables_1 ∧ Cond.instanceMethod q.1 ∈ tables_1
theorem lw_p0 : lw_okq (⟨"java/lang/Throwable", "fillInStackTrace", "(I)Ljava/lang/Throwable;"⟩, 6) := ⟨⟨by decide +kernel, by decide +kernel⟩, List.mem_of_getElem? (i := 229) (by decide +kernel), List.mem_of_getElem? (i := 227) (by decide +kernel), List.mem_of_getElem? (i := 228) (by decide +kernel)⟩
theorem lw_p1 : lw_okq (⟨"RejudgeHall$Program", "append", "(II)V"⟩, 3) := ⟨⟨by decide +kernel, by decide +kernel⟩, List.mem_of_getElem? (i := 33) (by decide +kernel), List.mem_of_getElem? (i := 275) (by decide +kernel), List.mem_of_getElem? (i := 276) (by decide +kernel)⟩
theorem lw_p2 : lw_okq (⟨"RejudgeHall$Row", "push", "(I)V"⟩, 2) := ⟨⟨by decide +kernel, by decide +kernel⟩, List.mem_of_getElem? (i := 54) (by decide +kernel), List.mem_of_getElem? (i := 284) (by decide +kernel), List.mem_of_getElem? (i := 285) (by decide +kernel)⟩
theorem lw_p3 : lw_okq (⟨"RejudgeHall$Entry", "waits", "()Z"⟩, 8) := ⟨⟨by decide +kernel, by decide +kernel⟩, List.mem_of_getElem? (i := 322) (by decide +kernel), List.mem_of_getElem? (i := 320) (by decide +kernel), List.mem_of_getElem? (i := 321) (by decide +kernel)⟩
theorem lw_p4 : lw_okq (⟨"RejudgeHall", "giveVerdict", "(LRejudgeHall$Entry;)V"⟩, 12) := ⟨⟨by decide +kernel, by decide +kernel⟩, List.mem_of_getElem? (i := 25) (by decide +kernel), List.mem_of_getElem? (i := 325) (by decide +kernel), List.mem_of_getElem? (i := 326) (by decide +kernel)⟩
theorem lw_p5 : lw_okq (⟨"RejudgeHall", "tryOut", "(LRejudgeHall$Entry;LRejudgeHall$Trial;)I"⟩, 12) := ⟨⟨by decide +kernel, by decide +kernel⟩, List.mem_of_getElem? (i := 25) (by decide +kernel), List.mem_of_getElem? (i := 330) (by decide +kernel), List.mem_of_getElem? (i := 331) (by decide +kernel)⟩
theorem lw_p6 : lw_okq (⟨"RejudgeHall$Machine", "execute", "(LRejudgeHall$Program;LRejudgeHall$Row;I)I"⟩, 5) := ⟨⟨by decide +kernel, by decide +kernel⟩, List.mem_of_getElem? (i := 69) (by decide +kernel), List.mem_of_getElem? (i := 334) (by decide +kernel), List.mem_of_getElem? (i := 335) (by decide +kernel)⟩
theorem lw_p7 : lw_okq (⟨"RejudgeHall$Machine", "step", "(LRejudgeHall$Program;LRejudgeHall$Row;)I"⟩, 5) := ⟨⟨by decide +kernel, by decide +kernel⟩, List.mem_of_getElem? (i := 69) (by decide +kernel), List.mem_of_getElem? (i := 338) (by decide +kernel), List.mem_of_getElem? (i := 339) (by decide +kernel)⟩
theorem lw_p8 : lw_okq (⟨"RejudgeHall$Program", "has", "(I)Z"⟩, 3) := ⟨⟨by decide +kernel, by decide +kernel⟩, List.mem_of_getElem? (i := 33) (by decide +kernel), List.mem_of_getElem? (i := 342) (by decide +kernel), List.mem_of_getElem? (i := 343) (by decide +kernel)⟩
theorem lw_p9 : lw_okq (⟨"RejudgeHall$Row", "at", "(I)I"⟩, 2) := ⟨⟨by decide +kernel, by decide +kernel⟩, List.mem_of_getElem? (i := 54) (by decide +kernel), List.mem_of_getElem? (i := 346) (by decide +kernel), List.mem_of_getElem? (i := 347) (by decide +kernel)⟩
theorem lw_p10 : lw_okq (⟨"RejudgeHall$Machine", "put", "(I)I"⟩, 5) := ⟨⟨by decide +kernel, by decide +kernel⟩, List.mem_of_getElem? (i := 69) (by decide +kernel), List.mem_of_getElem? (i := 350) (by decide +kernel), List.mem_of_getElem? (i := 351) (by decide +kernel)⟩
theorem lw_p11 : lw_okq (⟨"RejudgeHall$Row", "isFull", "()Z"⟩, 2) := ⟨⟨by decide +kernel, by decide +kernel⟩, List.mem_of_getElem? (i := 54) (by decide +kernel), List.mem_of_getElem? (i := 354) (by decide +kernel), List.mem_of_getElem? (i := 355) (by decide +kernel)⟩
theorem lw_p12 : lw_okq (⟨"RejudgeHall$Machine", "make", "(I)I"⟩, 5) := ⟨⟨by decide +kernel, by decide +kernel⟩, List.mem_of_getElem? (i := 69) (by decide +kernel), List.mem_of_getElem? (i := 359) (by decide +kernel), List.mem_of_getElem? (i := 360) (by decide +kernel)⟩
theorem lw_p13 : lw_okq (⟨"RejudgeHall$Row", "pop", "()I"⟩, 2) := ⟨⟨by decide +kernel, by decide +kernel⟩, List.mem_of_getElem? (i := 54) (by decide +kernel), List.mem_of_getElem? (i := 363) (by decide +kernel), List.mem_of_getElem? (i := 364) (by decide +kernel)⟩
theorem lw_p14 : lw_okq (⟨"RejudgeHall$Machine", "swap", "()I"⟩, 5) := ⟨⟨by decide +kernel, by decide +kernel⟩, List.mem_of_getElem? (i := 69) (by decide +kernel), List.mem_of_getElem? (i := 369) (by decide +kernel), List.mem_of_getElem? (i := 370) (by decide +kernel)⟩
theorem lw_p15 : lw_okq (⟨"RejudgeHall$Machine", "goIfZero", "(II)I"⟩, 5) := ⟨⟨by decide +kernel, by decide +kernel⟩, List.mem_of_getElem? (i := 69) (by decide +kernel), List.mem_of_getElem? (i := 373) (by decide +kernel), List.mem_of_getElem? (i := 374) (by decide +kernel)⟩
def lw_privs_1 : List (MethodName × Nat) := [(⟨"java/lang/Throwable", "fillInStackTrace", "(I)Ljava/lang/Throwable;"⟩, 6), (⟨"RejudgeHall$Program", "append", "(II)V"⟩, 3), (⟨"RejudgeHall$Row", "push", "(I)V"⟩, 2), (⟨"RejudgeHall$Entry", "waits", "()Z"⟩, 8), (⟨"RejudgeHall", "giveVerdict", "(LRejudgeHall$Entry;)V"⟩, 12), (⟨"RejudgeHall", "tryOut", "(LRejudgeHall$Entry;LRejudgeHall$Trial;)I"⟩, 12), (⟨"RejudgeHall$Machine", "execute", "(LRejudgeHall$Program;LRejudgeHall$Row;I)I"⟩, 5), (⟨"RejudgeHall$Machine", "step", "(LRejudgeHall$Program;LRejudgeHall$Row;)I"⟩, 5), (⟨"RejudgeHall$Program", "has", "(I)Z"⟩, 3), (⟨"RejudgeHall$Row", "at", "(I)I"⟩, 2), (⟨"RejudgeHall$Machine", "put", "(I)I"⟩, 5), (⟨"RejudgeHall$Row", "isFull", "()Z"⟩, 2), (⟨"RejudgeHall$Machine", "make", "(I)I"⟩, 5), (⟨"RejudgeHall$Row", "pop", "()I"⟩, 2), (⟨"RejudgeHall$Machine", "swap", "()I"⟩, 5), (⟨"RejudgeHall$Machine", "goIfZero", "(II)I"⟩, 5)]
theorem lw_r1 : ∀ q ∈ lw_privs_1, lw_okq q := List.forall_mem_cons.mpr ⟨lw_p0, List.forall_mem_cons.mpr ⟨lw_p1, List.forall_mem_cons.mpr ⟨lw_p2, List.forall_mem_cons.mpr ⟨lw_p3, List.forall_mem_cons.mpr ⟨lw_p4, List.forall_mem_cons.mpr ⟨lw_p5, List.forall_mem_cons.mpr ⟨lw_p6, List.forall_mem_cons.mpr ⟨lw_p7, List.forall_mem_cons.mpr ⟨lw_p8, List.forall_mem_cons.mpr ⟨lw_p9, List.forall_mem_cons.mpr ⟨lw_p10, List.forall_mem_cons.mpr ⟨lw_p11, List.forall_mem_cons.mpr ⟨lw_p12, List.forall_mem_cons.mpr ⟨lw_p13, List.forall_mem_cons.mpr ⟨lw_p14, List.forall_mem_cons.mpr ⟨lw_p15, fun _ h => absurd h List.not_mem_nil⟩⟩⟩⟩⟩⟩⟩⟩⟩⟩⟩⟩⟩⟩⟩⟩
theorem lw_p16 : lw_okq (⟨"RejudgeHall$Machine", "goTo", "(II)I"⟩, 5) := ⟨⟨by decide +kernel, by decide +kernel⟩, List.mem_of_getElem? (i := 69) (by decide +kernel), List.mem_of_getElem? (i := 377) (by decide +kernel), List.mem_of_getElem? (i := 378) (by decide +kernel)⟩
theorem lw_p17 : lw_okq (⟨"RejudgeHall$Machine", "print", "()I"⟩, 5) := ⟨⟨by decide +kernel, by decide +kernel⟩, List.mem_of_getElem? (i := 69) (by decide +kernel), List.mem_of_getElem? (i := 381) (by decide +kernel), List.mem_of_getElem? (i := 382) (by decide +kernel)⟩
theorem lw_p18 : lw_okq (⟨"RejudgeHall$Row", "isWithin", "(ILRejudgeHall$Row;)Z"⟩, 2) := ⟨⟨by decide +kernel, by decide +kernel⟩, List.mem_of_getElem? (i := 54) (by decide +kernel), List.mem_of_getElem? (i := 385) (by decide +kernel), List.mem_of_getElem? (i := 386) (by decide +kernel)⟩
theorem lw_p19 : lw_okq (⟨"RejudgeHall$Problem", "pointsOf", "(I)I"⟩, 7) := ⟨⟨by decide +kernel, by decide +kernel⟩, List.mem_of_getElem? (i := 395) (by decide +kernel), List.mem_of_getElem? (i := 393) (by decide +kernel), List.mem_of_getElem? (i := 394) (by decide +kernel)⟩
theorem lw_p20 : lw_okq (⟨"RejudgeHall", "problemAt", "(I)LRejudgeHall$Problem;"⟩, 12) := ⟨⟨by decide +kernel, by decide +kernel⟩, List.mem_of_getElem? (i := 25) (by decide +kernel), List.mem_of_getElem? (i := 402) (by decide +kernel), List.mem_of_getElem? (i := 403) (by decide +kernel)⟩
theorem lw_p21 : lw_okq (⟨"RejudgeHall$Entry", "letWait", "()V"⟩, 8) := ⟨⟨by decide +kernel, by decide +kernel⟩, List.mem_of_getElem? (i := 322) (by decide +kernel), List.mem_of_getElem? (i := 426) (by decide +kernel), List.mem_of_getElem? (i := 427) (by decide +kernel)⟩
theorem lw_p22 : lw_okq (⟨"RejudgeHall", "entryAt", "(I)LRejudgeHall$Entry;"⟩, 12) := ⟨⟨by decide +kernel, by decide +kernel⟩, List.mem_of_getElem? (i := 25) (by decide +kernel), List.mem_of_getElem? (i := 434) (by decide +kernel), List.mem_of_getElem? (i := 435) (by decide +kernel)⟩
theorem lw_p23 : lw_okq (⟨"RejudgeHall", "longestCommon", "(LRejudgeHall$Program;LRejudgeHall$Program;)I"⟩, 12) := ⟨⟨by decide +kernel, by decide +kernel⟩, List.mem_of_getElem? (i := 25) (by decide +kernel), List.mem_of_getElem? (i := 445) (by decide +kernel), List.mem_of_getElem? (i := 446) (by decide +kernel)⟩
theorem lw_p24 : lw_okq (⟨"RejudgeHall$Program", "isAlikeAt", "(ILRejudgeHall$Program;I)Z"⟩, 3) := ⟨⟨by decide +kernel, by decide +kernel⟩, List.mem_of_getElem? (i := 33) (by decide +kernel), List.mem_of_getElem? (i := 452) (by decide +kernel), List.mem_of_getElem? (i := 453) (by decide +kernel)⟩
theorem lw_p25 : lw_okq (⟨"RejudgeHall", "countVerdicts", "(Z)V"⟩, 12) := ⟨⟨by decide +kernel, by decide +kernel⟩, List.mem_of_getElem? (i := 25) (by decide +kernel), List.mem_of_getElem? (i := 464) (by decide +kernel), List.mem_of_getElem? (i := 465) (by decide +kernel)⟩
theorem lw_p26 : lw_okq (⟨"RejudgeHall$Standings", "wipe", "()V"⟩, 5) := ⟨⟨by decide +kernel, by decide +kernel⟩, List.mem_of_getElem? (i := 121) (by decide +kernel), List.mem_of_getElem? (i := 468) (by decide +kernel), List.mem_of_getElem? (i := 469) (by decide +kernel)⟩
theorem lw_p27 : lw_okq (⟨"RejudgeHall", "isHidden", "(LRejudgeHall$Entry;)Z"⟩, 12) := ⟨⟨by decide +kernel, by decide +kernel⟩, List.mem_of_getElem? (i := 25) (by decide +kernel), List.mem_of_getElem? (i := 473) (by decide +kernel), List.mem_of_getElem? (i := 474) (by decide +kernel)⟩
theorem lw_p28 : lw_okq (⟨"RejudgeHall", "isLate", "(LRejudgeHall$Entry;)Z"⟩, 12) := ⟨⟨by decide +kernel, by decide +kernel⟩, List.mem_of_getElem? (i := 25) (by decide +kernel), List.mem_of_getElem? (i := 477) (by decide +kernel), List.mem_of_getElem? (i := 478) (by decide +kernel)⟩
theorem lw_p29 : lw_okq (⟨"RejudgeHall$Standings", "count", "(LRejudgeHall$Entry;Z)V"⟩, 5) := ⟨⟨by decide +kernel, by decide +kernel⟩, List.mem_of_getElem? (i := 121) (by decide +kernel), List.mem_of_getElem? (i := 484) (by decide +kernel), List.mem_of_getElem? (i := 485) (by decide +kernel)⟩
theorem lw_p30 : lw_okq (⟨"RejudgeHall", "lowestHidden", "(I)I"⟩, 12) := ⟨⟨by decide +kernel, by decide +kernel⟩, List.mem_of_getElem? (i := 25) (by decide +kernel), List.mem_of_getElem? (i := 490) (by decide +kernel), List.mem_of_getElem? (i := 491) (by decide +kernel)⟩
theorem lw_p31 : lw_okq (⟨"RejudgeHall$Standings", "isAhead", "(II)Z"⟩, 5) := ⟨⟨by decide +kernel, by decide +kernel⟩, List.mem_of_getElem? (i := 121) (by decide +kernel), List.mem_of_getElem? (i := 494) (by decide +kernel), List.mem_of_getElem? (i := 495) (by decide +kernel)⟩
def lw_privs_2 : List (MethodName × Nat) := [(⟨"RejudgeHall$Machine", "goTo", "(II)I"⟩, 5), (⟨"RejudgeHall$Machine", "print", "()I"⟩, 5), (⟨"RejudgeHall$Row", "isWithin", "(ILRejudgeHall$Row;)Z"⟩, 2), (⟨"RejudgeHall$Problem", "pointsOf", "(I)I"⟩, 7), (⟨"RejudgeHall", "problemAt", "(I)LRejudgeHall$Problem;"⟩, 12), (⟨"RejudgeHall$Entry", "letWait", "()V"⟩, 8), (⟨"RejudgeHall", "entryAt", "(I)LRejudgeHall$Entry;"⟩, 12), (⟨"RejudgeHall", "longestCommon", "(LRejudgeHall$Program;LRejudgeHall$Program;)I"⟩, 12), (⟨"RejudgeHall$Program", "isAlikeAt", "(ILRejudgeHall$Program;I)Z"⟩, 3), (⟨"RejudgeHall", "countVerdicts", "(Z)V"⟩, 12), (⟨"RejudgeHall$Standings", "wipe", "()V"⟩, 5), (⟨"RejudgeHall", "isHidden", "(LRejudgeHall$Entry;)Z"⟩, 12), (⟨"RejudgeHall", "isLate", "(LRejudgeHall$Entry;)Z"⟩, 12), (⟨"RejudgeHall$Standings", "count", "(LRejudgeHall$Entry;Z)V"⟩, 5), (⟨"RejudgeHall", "lowestHidden", "(I)I"⟩, 12), (⟨"RejudgeHall$Standings", "isAhead", "(II)Z"⟩, 5)]
theorem lw_r2 : ∀ q ∈ lw_privs_2, lw_okq q := List.forall_mem_cons.mpr ⟨lw_p16, List.forall_mem_cons.mpr ⟨lw_p17, List.forall_mem_cons.mpr ⟨lw_p18, List.forall_mem_cons.mpr ⟨lw_p19, List.forall_mem_cons.mpr ⟨lw_p20, List.forall_mem_cons.mpr ⟨lw_p21, List.forall_mem_cons.mpr ⟨lw_p22, List.forall_mem_cons.mpr ⟨lw_p23, List.forall_mem_cons.mpr ⟨lw_p24, List.forall_mem_cons.mpr ⟨lw_p25, List.forall_mem_cons.mpr ⟨lw_p26, List.forall_mem_cons.mpr ⟨lw_p27, List.forall_mem_cons.mpr ⟨lw_p28, List.forall_mem_cons.mpr ⟨lw_p29, List.forall_mem_cons.mpr ⟨lw_p30, List.forall_mem_cons.mpr ⟨lw_p31, fun _ h => absurd h List.not_mem_nil⟩⟩⟩⟩⟩⟩⟩⟩⟩⟩⟩⟩⟩⟩⟩⟩
theorem lw_p32 : lw_okq (⟨"RejudgeHall$Standings", "placeOf", "(I)I"⟩, 5) := ⟨⟨by decide +kernel, by decide +kernel⟩, List.mem_of_getElem? (i := 121) (by decide +kernel), List.mem_of_getElem? (i := 502) (by decide +kernel), List.mem_of_getElem? (i := 503) (by decide +kernel)⟩
theorem lw_p33 : lw_okq (⟨"RejudgeHall", "passesAll", "(LRejudgeHall$Entry;)Z"⟩, 12) := ⟨⟨by decide +kernel, by decide +kernel⟩, List.mem_of_getElem? (i := 25) (by decide +kernel), List.mem_of_getElem? (i := 511) (by decide +kernel), List.mem_of_getElem? (i := 512) (by decide +kernel)⟩
theorem lw_p34 : lw_okq (⟨"RejudgeHall$Program", "takeFrom", "(LRejudgeHall$Program;)V"⟩, 3) := ⟨⟨by decide +kernel, by decide +kernel⟩, List.mem_of_getElem? (i := 33) (by decide +kernel), List.mem_of_getElem? (i := 570) (by decide +kernel), List.mem_of_getElem? (i := 571) (by decide +kernel)⟩
theorem lw_p35 : lw_okq (⟨"java/util/ArrayList", "add", "(Ljava/lang/Object;[Ljava/lang/Object;I)V"⟩, 3) := ⟨⟨by decide +kernel, by decide +kernel⟩, List.mem_of_getElem? (i := 95) (by decide +kernel), List.mem_of_getElem? (i := 581) (by decide +kernel), List.mem_of_getElem? (i := 582) (by decide +kernel)⟩
theorem lw_p36 : lw_okq (⟨"java/util/ArrayList", "grow", "()[Ljava/lang/Object;"⟩, 3) := ⟨⟨by decide +kernel, by decide +kernel⟩, List.mem_of_getElem? (i := 95) (by decide +kernel), List.mem_of_getElem? (i := 585) (by decide +kernel), List.mem_of_getElem? (i := 586) (by decide +kernel)⟩
theorem lw_p37 : lw_okq (⟨"java/util/ArrayList", "grow", "(I)[Ljava/lang/Object;"⟩, 3) := ⟨⟨by decide +kernel, by decide +kernel⟩, List.mem_of_getElem? (i := 95) (by decide +kernel), List.mem_of_getElem? (i := 589) (by decide +kernel), List.mem_of_getElem? (i := 590) (by decide +kernel)⟩
theorem lw_p38 : lw_okq (⟨"RejudgeHall", "findsAnswer", "(LRejudgeHall$Program;LRejudgeHall$Row;)Z"⟩, 12) := ⟨⟨by decide +kernel, by decide +kernel⟩, List.mem_of_getElem? (i := 25) (by decide +kernel), List.mem_of_getElem? (i := 635) (by decide +kernel), List.mem_of_getElem? (i := 636) (by decide +kernel)⟩
theorem lw_p39 : lw_okq (⟨"RejudgeHall$Row", "copyFrom", "(LRejudgeHall$Row;)V"⟩, 2) := ⟨⟨by decide +kernel, by decide +kernel⟩, List.mem_of_getElem? (i := 54) (by decide +kernel), List.mem_of_getElem? (i := 647) (by decide +kernel), List.mem_of_getElem? (i := 648) (by decide +kernel)⟩
theorem lw_p40 : lw_okq (⟨"RejudgeHall$Problem", "addTrial", "(LRejudgeHall$Trial;)V"⟩, 7) := ⟨⟨by decide +kernel, by decide +kernel⟩, List.mem_of_getElem? (i := 395) (by decide +kernel), List.mem_of_getElem? (i := 665) (by decide +kernel), List.mem_of_getElem? (i := 666) (by decide +kernel)⟩
theorem lw_p41 : lw_okq (⟨"RejudgeHall", "findsAllAnswers", "(LRejudgeHall$Problem;LRejudgeHall$Program;)Z"⟩, 12) := ⟨⟨by decide +kernel, by decide +kernel⟩, List.mem_of_getElem? (i := 25) (by decide +kernel), List.mem_of_getElem? (i := 678) (by decide +kernel), List.mem_of_getElem? (i := 679) (by decide +kernel)⟩
theorem lw_p42 : lw_okq (⟨"RejudgeHall", "renewAnswers", "(LRejudgeHall$Problem;)V"⟩, 12) := ⟨⟨by decide +kernel, by decide +kernel⟩, List.mem_of_getElem? (i := 25) (by decide +kernel), List.mem_of_getElem? (i := 683) (by decide +kernel), List.mem_of_getElem? (i := 684) (by decide +kernel)⟩
theorem lw_p43 : lw_okq (⟨"RejudgeHall", "hasSolved", "(ILRejudgeHall$Problem;)Z"⟩, 12) := ⟨⟨by decide +kernel, by decide +kernel⟩, List.mem_of_getElem? (i := 25) (by decide +kernel), List.mem_of_getElem? (i := 751) (by decide +kernel), List.mem_of_getElem? (i := 752) (by decide +kernel)⟩
def lw_privs_3 : List (MethodName × Nat) := [(⟨"RejudgeHall$Standings", "placeOf", "(I)I"⟩, 5), (⟨"RejudgeHall", "passesAll", "(LRejudgeHall$Entry;)Z"⟩, 12), (⟨"RejudgeHall$Program", "takeFrom", "(LRejudgeHall$Program;)V"⟩, 3), (⟨"java/util/ArrayList", "add", "(Ljava/lang/Object;[Ljava/lang/Object;I)V"⟩, 3), (⟨"java/util/ArrayList", "grow", "()[Ljava/lang/Object;"⟩, 3), (⟨"java/util/ArrayList", "grow", "(I)[Ljava/lang/Object;"⟩, 3), (⟨"RejudgeHall", "findsAnswer", "(LRejudgeHall$Program;LRejudgeHall$Row;)Z"⟩, 12), (⟨"RejudgeHall$Row", "copyFrom", "(LRejudgeHall$Row;)V"⟩, 2), (⟨"RejudgeHall$Problem", "addTrial", "(LRejudgeHall$Trial;)V"⟩, 7), (⟨"RejudgeHall", "findsAllAnswers", "(LRejudgeHall$Problem;LRejudgeHall$Program;)Z"⟩, 12), (⟨"RejudgeHall", "renewAnswers", "(LRejudgeHall$Problem;)V"⟩, 12), (⟨"RejudgeHall", "hasSolved", "(ILRejudgeHall$Problem;)Z"⟩, 12)]
theorem lw_r3 : ∀ q ∈ lw_privs_3, lw_okq q := List.forall_mem_cons.mpr ⟨lw_p32, List.forall_mem_cons.mpr ⟨lw_p33, List.forall_mem_cons.mpr ⟨lw_p34, List.forall_mem_cons.mpr ⟨lw_p35, List.forall_mem_cons.mpr ⟨lw_p36, List.forall_mem_cons.mpr ⟨lw_p37, List.forall_mem_cons.mpr ⟨lw_p38, List.forall_mem_cons.mpr ⟨lw_p39, List.forall_mem_cons.mpr ⟨lw_p40, List.forall_mem_cons.mpr ⟨lw_p41, List.forall_mem_cons.mpr ⟨lw_p42, List.forall_mem_cons.mpr ⟨lw_p43, fun _ h => absurd h List.not_mem_nil⟩⟩⟩⟩⟩⟩⟩⟩⟩⟩⟩⟩
def lw_privs : List (MethodName × Nat) := lw_privs_1 ++ (lw_privs_2 ++ (lw_privs_3))
def lw_tbl : List Cond := k2_sels lw_privs ++ tables_1
theorem lw_privs_ok : ∀ q ∈ lw_privs, lw_okq q := by
  show ∀ q ∈ lw_privs_1 ++ (lw_privs_2 ++ (lw_privs_3)), lw_okq q
  exact List.forall_mem_append.mpr ⟨lw_r1, List.forall_mem_append.mpr ⟨lw_r2, lw_r3⟩⟩
-- ===== end of PART A; then your names; then what follows =====
def RX0 : String := "RejudgeHall$Entry"
def TX0 : u_T := fun k => match k with
  | 0 => ("RejudgeHall$Entry", "team", "I", true)
  | 1 => ("RejudgeHall$Entry", "problem", "LRejudgeHall$Problem;", true)
  | 2 => ("RejudgeHall$Entry", "minute", "I", true)
  | 3 => ("RejudgeHall$Entry", "program", "LRejudgeHall$Program;", true)
  | 4 => ("RejudgeHall$Entry", "verdict", "I", false)
  | 5 => ("RejudgeHall$Entry", "failedTest", "I", false)
  | 6 => ("RejudgeHall$Entry", "score", "I", false)
  | _ => ("RejudgeHall$Entry", "version", "I", false)
def tyX0 : Nat → FieldType := fun k => match k with
  | 0 => .int
  | 1 => .object "RejudgeHall$Problem"
  | 2 => .int
  | 3 => .object "RejudgeHall$Program"
  | 4 => .int
  | 5 => .int
  | 6 => .int
  | _ => .int
abbrev wsX00 : List Cond := u_ws RX0 TX0 8
theorem nmX0 : ∀ a, a < 8 → ∀ b, b < 8 → a ≠ b → (TX0 a).2.1 ≠ (TX0 b).2.1 := by decide +kernel
theorem tyX0_ok : ∀ k, k < 8 → parseFieldDescriptor (TX0 k).2.2.1 = some (tyX0 k) := by decide +kernel
abbrev cX0_init : ByteArray := prog_2_method_1_code
def yX0_init : MethodName := ⟨RX0, "<init>", "(ILRejudgeHall$Problem;I)V"⟩
abbrev cX0_waits : ByteArray := prog_2_method_2_code
def yX0_waits : MethodName := ⟨RX0, "waits", "()Z"⟩
abbrev cX0_letWait : ByteArray := prog_2_method_3_code
def yX0_letWait : MethodName := ⟨RX0, "letWait", "()V"⟩
def RX1 : String := "RejudgeHall$Machine"
def TX1 : u_T := fun k => match k with
  | 0 => ("RejudgeHall$Machine", "stack", "LRejudgeHall$Row;", true)
  | 1 => ("RejudgeHall$Machine", "output", "LRejudgeHall$Row;", true)
  | 2 => ("RejudgeHall$Machine", "steps", "I", false)
  | 3 => ("RejudgeHall$Machine", "next", "I", false)
  | _ => ("RejudgeHall$Machine", "inputsRead", "I", false)
def tyX1 : Nat → FieldType := fun k => match k with
  | 0 => .object "RejudgeHall$Row"
  | 1 => .object "RejudgeHall$Row"
  | 2 => .int
  | 3 => .int
  | _ => .int
abbrev wsX10 : List Cond := u_ws RX1 TX1 5
theorem nmX1 : ∀ a, a < 5 → ∀ b, b < 5 → a ≠ b → (TX1 a).2.1 ≠ (TX1 b).2.1 := by decide +kernel
theorem tyX1_ok : ∀ k, k < 5 → parseFieldDescriptor (TX1 k).2.2.1 = some (tyX1 k) := by decide +kernel
abbrev cX1_init : ByteArray := prog_3_method_1_code
def yX1_init : MethodName := ⟨RX1, "<init>", "()V"⟩
abbrev cX1_execute : ByteArray := prog_3_method_2_code
def yX1_execute : MethodName := ⟨RX1, "execute", "(LRejudgeHall$Program;LRejudgeHall$Row;I)I"⟩
abbrev cX1_step : ByteArray := prog_3_method_3_code
def yX1_step : MethodName := ⟨RX1, "step", "(LRejudgeHall$Program;LRejudgeHall$Row;)I"⟩
abbrev cX1_put : ByteArray := prog_3_method_4_code
def yX1_put : MethodName := ⟨RX1, "put", "(I)I"⟩
abbrev cX1_make : ByteArray := prog_3_method_5_code
def yX1_make : MethodName := ⟨RX1, "make", "(I)I"⟩
abbrev cX1_swap : ByteArray := prog_3_method_6_code
def yX1_swap : MethodName := ⟨RX1, "swap", "()I"⟩
abbrev cX1_goIfZero : ByteArray := prog_3_method_7_code
def yX1_goIfZero : MethodName := ⟨RX1, "goIfZero", "(II)I"⟩
abbrev cX1_goTo : ByteArray := prog_3_method_8_code
def yX1_goTo : MethodName := ⟨RX1, "goTo", "(II)I"⟩
abbrev cX1_print : ByteArray := prog_3_method_9_code
def yX1_print : MethodName := ⟨RX1, "print", "()I"⟩
def RX2 : String := "RejudgeHall$Problem"
def TX2 : u_T := fun k => match k with
  | 0 => ("RejudgeHall$Problem", "number", "I", true)
  | 1 => ("RejudgeHall$Problem", "limit", "I", true)
  | 2 => ("RejudgeHall$Problem", "solution", "LRejudgeHall$Program;", true)
  | 3 => ("RejudgeHall$Problem", "trials", "Ljava/util/ArrayList;", true)
  | 4 => ("RejudgeHall$Problem", "points", "[I", true)
  | 5 => ("RejudgeHall$Problem", "checker", "I", false)
  | _ => ("RejudgeHall$Problem", "version", "I", false)
def tyX2 : Nat → FieldType := fun k => match k with
  | 0 => .int
  | 1 => .int
  | 2 => .object "RejudgeHall$Program"
  | 3 => .object "java/util/ArrayList"
  | 4 => .array .int
  | 5 => .int
  | _ => .int
abbrev wsX20 : List Cond := u_ws RX2 TX2 7
theorem nmX2 : ∀ a, a < 7 → ∀ b, b < 7 → a ≠ b → (TX2 a).2.1 ≠ (TX2 b).2.1 := by decide +kernel
theorem tyX2_ok : ∀ k, k < 7 → parseFieldDescriptor (TX2 k).2.2.1 = some (tyX2 k) := by decide +kernel
abbrev cX2_init : ByteArray := prog_4_method_1_code
def yX2_init : MethodName := ⟨RX2, "<init>", "(III)V"⟩
abbrev cX2_addTrial : ByteArray := prog_4_method_2_code
def yX2_addTrial : MethodName := ⟨RX2, "addTrial", "(LRejudgeHall$Trial;)V"⟩
abbrev cX2_pointsOf : ByteArray := prog_4_method_3_code
def yX2_pointsOf : MethodName := ⟨RX2, "pointsOf", "(I)I"⟩
def RX3 : String := "RejudgeHall$Program"
def TX3 : u_T := fun k => match k with
  | 0 => ("RejudgeHall$Program", "sorts", "[I", true)
  | 1 => ("RejudgeHall$Program", "numbers", "[I", true)
  | _ => ("RejudgeHall$Program", "length", "I", false)
def tyX3 : Nat → FieldType := fun k => match k with
  | 0 => .array .int
  | 1 => .array .int
  | _ => .int
abbrev wsX30 : List Cond := u_ws RX3 TX3 3
theorem nmX3 : ∀ a, a < 3 → ∀ b, b < 3 → a ≠ b → (TX3 a).2.1 ≠ (TX3 b).2.1 := by decide +kernel
theorem tyX3_ok : ∀ k, k < 3 → parseFieldDescriptor (TX3 k).2.2.1 = some (tyX3 k) := by decide +kernel
abbrev cX3_init : ByteArray := prog_5_method_1_code
def yX3_init : MethodName := ⟨RX3, "<init>", "()V"⟩
abbrev cX3_append : ByteArray := prog_5_method_2_code
def yX3_append : MethodName := ⟨RX3, "append", "(II)V"⟩
abbrev cX3_takeFrom : ByteArray := prog_5_method_3_code
def yX3_takeFrom : MethodName := ⟨RX3, "takeFrom", "(LRejudgeHall$Program;)V"⟩
abbrev cX3_has : ByteArray := prog_5_method_4_code
def yX3_has : MethodName := ⟨RX3, "has", "(I)Z"⟩
abbrev cX3_isAlikeAt : ByteArray := prog_5_method_5_code
def yX3_isAlikeAt : MethodName := ⟨RX3, "isAlikeAt", "(ILRejudgeHall$Program;I)Z"⟩
def RX4 : String := "RejudgeHall$Row"
def TX4 : u_T := fun k => match k with
  | 0 => ("RejudgeHall$Row", "numbers", "[I", true)
  | _ => ("RejudgeHall$Row", "length", "I", false)
def tyX4 : Nat → FieldType := fun k => match k with
  | 0 => .array .int
  | _ => .int
abbrev wsX40 : List Cond := u_ws RX4 TX4 2
theorem nmX4 : ∀ a, a < 2 → ∀ b, b < 2 → a ≠ b → (TX4 a).2.1 ≠ (TX4 b).2.1 := by decide +kernel
theorem tyX4_ok : ∀ k, k < 2 → parseFieldDescriptor (TX4 k).2.2.1 = some (tyX4 k) := by decide +kernel
abbrev cX4_init : ByteArray := prog_6_method_1_code
def yX4_init : MethodName := ⟨RX4, "<init>", "()V"⟩
abbrev cX4_isFull : ByteArray := prog_6_method_2_code
def yX4_isFull : MethodName := ⟨RX4, "isFull", "()Z"⟩
abbrev cX4_push : ByteArray := prog_6_method_3_code
def yX4_push : MethodName := ⟨RX4, "push", "(I)V"⟩
abbrev cX4_pop : ByteArray := prog_6_method_4_code
def yX4_pop : MethodName := ⟨RX4, "pop", "()I"⟩
abbrev cX4_at : ByteArray := prog_6_method_5_code
def yX4_at : MethodName := ⟨RX4, "at", "(I)I"⟩
abbrev cX4_copyFrom : ByteArray := prog_6_method_6_code
def yX4_copyFrom : MethodName := ⟨RX4, "copyFrom", "(LRejudgeHall$Row;)V"⟩
abbrev cX4_isWithin : ByteArray := prog_6_method_7_code
def yX4_isWithin : MethodName := ⟨RX4, "isWithin", "(ILRejudgeHall$Row;)Z"⟩
def RX5 : String := "RejudgeHall$Standings"
def TX5 : u_T := fun k => match k with
  | 0 => ("RejudgeHall$Standings", "solved", "[I", true)
  | 1 => ("RejudgeHall$Standings", "sums", "[I", true)
  | 2 => ("RejudgeHall$Standings", "latest", "[I", true)
  | 3 => ("RejudgeHall$Standings", "tries", "[I", true)
  | _ => ("RejudgeHall$Standings", "isSolved", "[Z", true)
def tyX5 : Nat → FieldType := fun k => match k with
  | 0 => .array .int
  | 1 => .array .int
  | 2 => .array .int
  | 3 => .array .int
  | _ => .array .boolean
abbrev wsX50 : List Cond := u_ws RX5 TX5 5
theorem nmX5 : ∀ a, a < 5 → ∀ b, b < 5 → a ≠ b → (TX5 a).2.1 ≠ (TX5 b).2.1 := by decide +kernel
theorem tyX5_ok : ∀ k, k < 5 → parseFieldDescriptor (TX5 k).2.2.1 = some (tyX5 k) := by decide +kernel
abbrev cX5_init : ByteArray := prog_7_method_1_code
def yX5_init : MethodName := ⟨RX5, "<init>", "()V"⟩
abbrev cX5_wipe : ByteArray := prog_7_method_2_code
def yX5_wipe : MethodName := ⟨RX5, "wipe", "()V"⟩
abbrev cX5_count : ByteArray := prog_7_method_3_code
def yX5_count : MethodName := ⟨RX5, "count", "(LRejudgeHall$Entry;Z)V"⟩
abbrev cX5_isAhead : ByteArray := prog_7_method_4_code
def yX5_isAhead : MethodName := ⟨RX5, "isAhead", "(II)Z"⟩
abbrev cX5_placeOf : ByteArray := prog_7_method_5_code
def yX5_placeOf : MethodName := ⟨RX5, "placeOf", "(I)I"⟩
def RX6 : String := "RejudgeHall$Trial"
def TX6 : u_T := fun k => match k with
  | 0 => ("RejudgeHall$Trial", "input", "LRejudgeHall$Row;", true)
  | 1 => ("RejudgeHall$Trial", "answer", "LRejudgeHall$Row;", true)
  | _ => ("RejudgeHall$Trial", "group", "I", true)
def tyX6 : Nat → FieldType := fun k => match k with
  | 0 => .object "RejudgeHall$Row"
  | 1 => .object "RejudgeHall$Row"
  | _ => .int
abbrev wsX60 : List Cond := u_ws RX6 TX6 3
theorem nmX6 : ∀ a, a < 3 → ∀ b, b < 3 → a ≠ b → (TX6 a).2.1 ≠ (TX6 b).2.1 := by decide +kernel
theorem tyX6_ok : ∀ k, k < 3 → parseFieldDescriptor (TX6 k).2.2.1 = some (tyX6 k) := by decide +kernel
abbrev cX6_init : ByteArray := prog_8_method_1_code
def yX6_init : MethodName := ⟨RX6, "<init>", "(LRejudgeHall$Row;LRejudgeHall$Row;I)V"⟩
def RX7 : String := "RejudgeHall"
def TX7 : u_T := fun k => match k with
  | 0 => ("RejudgeHall", "deskProgram", "LRejudgeHall$Program;", true)
  | 1 => ("RejudgeHall", "deskInput", "LRejudgeHall$Row;", true)
  | 2 => ("RejudgeHall", "machine", "LRejudgeHall$Machine;", true)
  | 3 => ("RejudgeHall", "problems", "Ljava/util/ArrayList;", true)
  | 4 => ("RejudgeHall", "entries", "Ljava/util/ArrayList;", true)
  | 5 => ("RejudgeHall", "standings", "LRejudgeHall$Standings;", true)
  | 6 => ("RejudgeHall", "judgings", "[I", true)
  | 7 => ("RejudgeHall", "hacks", "[I", true)
  | 8 => ("RejudgeHall", "revealed", "[Z", true)
  | 9 => ("RejudgeHall", "commonRow", "[I", true)
  | 10 => ("RejudgeHall", "minute", "I", false)
  | _ => ("RejudgeHall", "frozenFrom", "I", false)
def tyX7 : Nat → FieldType := fun k => match k with
  | 0 => .object "RejudgeHall$Program"
  | 1 => .object "RejudgeHall$Row"
  | 2 => .object "RejudgeHall$Machine"
  | 3 => .object "java/util/ArrayList"
  | 4 => .object "java/util/ArrayList"
  | 5 => .object "RejudgeHall$Standings"
  | 6 => .array .int
  | 7 => .array .int
  | 8 => .array .boolean
  | 9 => .array .int
  | 10 => .int
  | _ => .int
abbrev wsX70 : List Cond := u_ws RX7 TX7 12
theorem nmX7 : ∀ a, a < 12 → ∀ b, b < 12 → a ≠ b → (TX7 a).2.1 ≠ (TX7 b).2.1 := by decide +kernel
theorem tyX7_ok : ∀ k, k < 12 → parseFieldDescriptor (TX7 k).2.2.1 = some (tyX7 k) := by decide +kernel
abbrev cX7_init : ByteArray := prog_1_method_1_code
def yX7_init : MethodName := ⟨RX7, "<init>", "()V"⟩
abbrev cX7_code : ByteArray := prog_1_method_2_code
def yX7_code : MethodName := ⟨RX7, "code", "(II)I"⟩
abbrev cX7_input : ByteArray := prog_1_method_3_code
def yX7_input : MethodName := ⟨RX7, "input", "(I)I"⟩
abbrev cX7_clear : ByteArray := prog_1_method_4_code
def yX7_clear : MethodName := ⟨RX7, "clear", "()I"⟩
abbrev cX7_run : ByteArray := prog_1_method_5_code
def yX7_run : MethodName := ⟨RX7, "run", "(II)I"⟩
abbrev cX7_problem : ByteArray := prog_1_method_6_code
def yX7_problem : MethodName := ⟨RX7, "problem", "(II)I"⟩
abbrev cX7_test : ByteArray := prog_1_method_7_code
def yX7_test : MethodName := ⟨RX7, "test", "(II)I"⟩
abbrev cX7_points : ByteArray := prog_1_method_8_code
def yX7_points : MethodName := ⟨RX7, "points", "(III)I"⟩
abbrev cX7_mend : ByteArray := prog_1_method_9_code
def yX7_mend : MethodName := ⟨RX7, "mend", "(II)I"⟩
abbrev cX7_answer : ByteArray := prog_1_method_10_code
def yX7_answer : MethodName := ⟨RX7, "answer", "(III)I"⟩
abbrev cX7_enter : ByteArray := prog_1_method_11_code
def yX7_enter : MethodName := ⟨RX7, "enter", "(II)I"⟩
abbrev cX7_pass : ByteArray := prog_1_method_12_code
def yX7_pass : MethodName := ⟨RX7, "pass", "(I)I"⟩
abbrev cX7_judge : ByteArray := prog_1_method_13_code
def yX7_judge : MethodName := ⟨RX7, "judge", "()I"⟩
abbrev cX7_rejudge : ByteArray := prog_1_method_14_code
def yX7_rejudge : MethodName := ⟨RX7, "rejudge", "(I)I"⟩
abbrev cX7_entry : ByteArray := prog_1_method_15_code
def yX7_entry : MethodName := ⟨RX7, "entry", "(II)I"⟩
abbrev cX7_likeness : ByteArray := prog_1_method_16_code
def yX7_likeness : MethodName := ⟨RX7, "likeness", "(II)I"⟩
abbrev cX7_freeze : ByteArray := prog_1_method_17_code
def yX7_freeze : MethodName := ⟨RX7, "freeze", "(I)V"⟩
abbrev cX7_reveal : ByteArray := prog_1_method_18_code
def yX7_reveal : MethodName := ⟨RX7, "reveal", "()I"⟩
abbrev cX7_board : ByteArray := prog_1_method_19_code
def yX7_board : MethodName := ⟨RX7, "board", "(IZI)I"⟩
abbrev cX7_placeAnew : ByteArray := prog_1_method_20_code
def yX7_placeAnew : MethodName := ⟨RX7, "placeAnew", "(I)I"⟩
abbrev cX7_hack : ByteArray := prog_1_method_21_code
def yX7_hack : MethodName := ⟨RX7, "hack", "(II)Z"⟩
abbrev cX7_needRange : ByteArray := prog_1_method_22_code
def yX7_needRange : MethodName := ⟨RX7, "needRange", "(III)V"⟩
abbrev cX7_needIndex : ByteArray := prog_1_method_23_code
def yX7_needIndex : MethodName := ⟨RX7, "needIndex", "(II)V"⟩
abbrev cX7_problemAt : ByteArray := prog_1_method_24_code
def yX7_problemAt : MethodName := ⟨RX7, "problemAt", "(I)LRejudgeHall$Problem;"⟩
abbrev cX7_entryAt : ByteArray := prog_1_method_25_code
def yX7_entryAt : MethodName := ⟨RX7, "entryAt", "(I)LRejudgeHall$Entry;"⟩
abbrev cX7_findsAnswer : ByteArray := prog_1_method_26_code
def yX7_findsAnswer : MethodName := ⟨RX7, "findsAnswer", "(LRejudgeHall$Program;LRejudgeHall$Row;)Z"⟩
abbrev cX7_findsAllAnswers : ByteArray := prog_1_method_27_code
def yX7_findsAllAnswers : MethodName := ⟨RX7, "findsAllAnswers", "(LRejudgeHall$Problem;LRejudgeHall$Program;)Z"⟩
abbrev cX7_renewAnswers : ByteArray := prog_1_method_28_code
def yX7_renewAnswers : MethodName := ⟨RX7, "renewAnswers", "(LRejudgeHall$Problem;)V"⟩
abbrev cX7_tryOut : ByteArray := prog_1_method_29_code
def yX7_tryOut : MethodName := ⟨RX7, "tryOut", "(LRejudgeHall$Entry;LRejudgeHall$Trial;)I"⟩
abbrev cX7_passesAll : ByteArray := prog_1_method_30_code
def yX7_passesAll : MethodName := ⟨RX7, "passesAll", "(LRejudgeHall$Entry;)Z"⟩
abbrev cX7_giveVerdict : ByteArray := prog_1_method_31_code
def yX7_giveVerdict : MethodName := ⟨RX7, "giveVerdict", "(LRejudgeHall$Entry;)V"⟩
abbrev cX7_hasSolved : ByteArray := prog_1_method_32_code
def yX7_hasSolved : MethodName := ⟨RX7, "hasSolved", "(ILRejudgeHall$Problem;)Z"⟩
abbrev cX7_longestCommon : ByteArray := prog_1_method_33_code
def yX7_longestCommon : MethodName := ⟨RX7, "longestCommon", "(LRejudgeHall$Program;LRejudgeHall$Program;)I"⟩
abbrev cX7_pairOf : ByteArray := prog_1_method_34_code
def yX7_pairOf : MethodName := ⟨RX7, "pairOf", "(II)I"⟩
abbrev cX7_isLate : ByteArray := prog_1_method_35_code
def yX7_isLate : MethodName := ⟨RX7, "isLate", "(LRejudgeHall$Entry;)Z"⟩
abbrev cX7_isHidden : ByteArray := prog_1_method_36_code
def yX7_isHidden : MethodName := ⟨RX7, "isHidden", "(LRejudgeHall$Entry;)Z"⟩
abbrev cX7_countVerdicts : ByteArray := prog_1_method_37_code
def yX7_countVerdicts : MethodName := ⟨RX7, "countVerdicts", "(Z)V"⟩
abbrev cX7_lowestHidden : ByteArray := prog_1_method_38_code
def yX7_lowestHidden : MethodName := ⟨RX7, "lowestHidden", "(I)I"⟩
def RX8 : String := "RejudgeHallModel"
def TX8 : u_T := fun k => match k with
  | _ => ("", "", "", false)
def tyX8 : Nat → FieldType := fun k => match k with
  | _ => .int
abbrev wsX80 : List Cond := u_ws RX8 TX8 0
theorem nmX8 : ∀ a, a < 0 → ∀ b, b < 0 → a ≠ b → (TX8 a).2.1 ≠ (TX8 b).2.1 := by decide +kernel
theorem tyX8_ok : ∀ k, k < 0 → parseFieldDescriptor (TX8 k).2.2.1 = some (tyX8 k) := by decide +kernel
def RJx145de : String := "java/io/Serializable"
def TJx145de : u_T := fun k => match k with
  | _ => ("", "", "", false)
def tyJx145de : Nat → FieldType := fun k => match k with
  | _ => .int
abbrev wsJx145de0 : List Cond := u_ws RJx145de TJx145de 0
theorem nmJx145de : ∀ a, a < 0 → ∀ b, b < 0 → a ≠ b → (TJx145de a).2.1 ≠ (TJx145de b).2.1 := by decide +kernel
theorem tyJx145de_ok : ∀ k, k < 0 → parseFieldDescriptor (TJx145de k).2.2.1 = some (tyJx145de k) := by decide +kernel
def RJx8e188 : String := "java/lang/Cloneable"
def TJx8e188 : u_T := fun k => match k with
  | _ => ("", "", "", false)
def tyJx8e188 : Nat → FieldType := fun k => match k with
  | _ => .int
abbrev wsJx8e1880 : List Cond := u_ws RJx8e188 TJx8e188 0
theorem nmJx8e188 : ∀ a, a < 0 → ∀ b, b < 0 → a ≠ b → (TJx8e188 a).2.1 ≠ (TJx8e188 b).2.1 := by decide +kernel
theorem tyJx8e188_ok : ∀ k, k < 0 → parseFieldDescriptor (TJx8e188 k).2.2.1 = some (tyJx8e188 k) := by decide +kernel
def RJxab1ab : String := "java/lang/Iterable"
def TJxab1ab : u_T := fun k => match k with
  | _ => ("", "", "", false)
def tyJxab1ab : Nat → FieldType := fun k => match k with
  | _ => .int
abbrev wsJxab1ab0 : List Cond := u_ws RJxab1ab TJxab1ab 0
theorem nmJxab1ab : ∀ a, a < 0 → ∀ b, b < 0 → a ≠ b → (TJxab1ab a).2.1 ≠ (TJxab1ab b).2.1 := by decide +kernel
theorem tyJxab1ab_ok : ∀ k, k < 0 → parseFieldDescriptor (TJxab1ab k).2.2.1 = some (tyJxab1ab k) := by decide +kernel
def RJ9 : String := "java/lang/Math"
def TJ9 : u_T := fun k => match k with
  | _ => ("", "", "", false)
def tyJ9 : Nat → FieldType := fun k => match k with
  | _ => .int
abbrev wsJ90 : List Cond := u_ws RJ9 TJ9 0
theorem nmJ9 : ∀ a, a < 0 → ∀ b, b < 0 → a ≠ b → (TJ9 a).2.1 ≠ (TJ9 b).2.1 := by decide +kernel
theorem tyJ9_ok : ∀ k, k < 0 → parseFieldDescriptor (TJ9 k).2.2.1 = some (tyJ9 k) := by decide +kernel
abbrev cJ9_abs_0f7a4 : ByteArray := prog_18_method_59_code
def yJ9_abs_0f7a4 : MethodName := ⟨RJ9, "abs", "(I)I"⟩
abbrev cJ9_max_7cf53 : ByteArray := prog_18_method_65_code
def yJ9_max_7cf53 : MethodName := ⟨RJ9, "max", "(II)I"⟩
abbrev cJ9_min_7cf53 : ByteArray := prog_18_method_69_code
def yJ9_min_7cf53 : MethodName := ⟨RJ9, "min", "(II)I"⟩
def RJ0 : String := "java/lang/String"
def TJ0 : u_T := fun k => match k with
  | _ => ("", "", "", false)
def tyJ0 : Nat → FieldType := fun k => match k with
  | _ => .int
abbrev wsJ00 : List Cond := u_ws RJ0 TJ0 0
theorem nmJ0 : ∀ a, a < 0 → ∀ b, b < 0 → a ≠ b → (TJ0 a).2.1 ≠ (TJ0 b).2.1 := by decide +kernel
theorem tyJ0_ok : ∀ k, k < 0 → parseFieldDescriptor (TJ0 k).2.2.1 = some (tyJ0 k) := by decide +kernel
def RJ10 : String := "java/lang/System"
def TJ10 : u_T := fun k => match k with
  | _ => ("", "", "", false)
def tyJ10 : Nat → FieldType := fun k => match k with
  | _ => .int
abbrev wsJ100 : List Cond := u_ws RJ10 TJ10 0
theorem nmJ10 : ∀ a, a < 0 → ∀ b, b < 0 → a ≠ b → (TJ10 a).2.1 ≠ (TJ10 b).2.1 := by decide +kernel
theorem tyJ10_ok : ∀ k, k < 0 → parseFieldDescriptor (TJ10 k).2.2.1 = some (tyJ10 k) := by decide +kernel
def RJxa1e45 : String := "java/util/AbstractCollection"
def TJxa1e45 : u_T := fun k => match k with
  | _ => ("", "", "", false)
def tyJxa1e45 : Nat → FieldType := fun k => match k with
  | _ => .int
abbrev wsJxa1e450 : List Cond := u_ws RJxa1e45 TJxa1e45 0
theorem nmJxa1e45 : ∀ a, a < 0 → ∀ b, b < 0 → a ≠ b → (TJxa1e45 a).2.1 ≠ (TJxa1e45 b).2.1 := by decide +kernel
theorem tyJxa1e45_ok : ∀ k, k < 0 → parseFieldDescriptor (TJxa1e45 k).2.2.1 = some (tyJxa1e45 k) := by decide +kernel
abbrev cJxa1e45_init_da8c8 : ByteArray := prog_23_method_1_code
def yJxa1e45_init_da8c8 : MethodName := ⟨RJxa1e45, "<init>", "()V"⟩
def RJxc12de : String := "java/util/AbstractList"
def TJxc12de : u_T := fun k => match k with
  | _ => ("", "", "", false)
def tyJxc12de : Nat → FieldType := fun k => match k with
  | _ => .int
abbrev wsJxc12de0 : List Cond := u_ws RJxc12de TJxc12de 0
theorem nmJxc12de : ∀ a, a < 0 → ∀ b, b < 0 → a ≠ b → (TJxc12de a).2.1 ≠ (TJxc12de b).2.1 := by decide +kernel
theorem tyJxc12de_ok : ∀ k, k < 0 → parseFieldDescriptor (TJxc12de k).2.2.1 = some (tyJxc12de k) := by decide +kernel
abbrev cJxc12de_init_da8c8 : ByteArray := prog_24_method_1_code
def yJxc12de_init_da8c8 : MethodName := ⟨RJxc12de, "<init>", "()V"⟩
def RJx4a65c : String := "java/util/ArrayList"
def TJx4a65c : u_T := fun k => match k with
  | 0 => ("java/util/AbstractList", "modCount", "I", false)
  | 1 => ("java/util/ArrayList", "elementData", "[Ljava/lang/Object;", false)
  | _ => ("java/util/ArrayList", "size", "I", false)
def tyJx4a65c : Nat → FieldType := fun k => match k with
  | 0 => .int
  | 1 => .array (.object "java/lang/Object")
  | _ => .int
abbrev wsJx4a65c0 : List Cond := u_ws RJx4a65c TJx4a65c 3
theorem nmJx4a65c : ∀ a, a < 3 → ∀ b, b < 3 → a ≠ b → (TJx4a65c a).2.1 ≠ (TJx4a65c b).2.1 := by decide +kernel
theorem tyJx4a65c_ok : ∀ k, k < 3 → parseFieldDescriptor (TJx4a65c k).2.2.1 = some (tyJx4a65c k) := by decide +kernel
abbrev cJx4a65c_init_da8c8 : ByteArray := prog_25_method_2_code
def yJx4a65c_init_da8c8 : MethodName := ⟨RJx4a65c, "<init>", "()V"⟩
abbrev cJx4a65c_grow_92f84 : ByteArray := prog_25_method_6_code
def yJx4a65c_grow_92f84 : MethodName := ⟨RJx4a65c, "grow", "(I)[Ljava/lang/Object;"⟩
abbrev cJx4a65c_grow_d5877 : ByteArray := prog_25_method_7_code
def yJx4a65c_grow_d5877 : MethodName := ⟨RJx4a65c, "grow", "()[Ljava/lang/Object;"⟩
abbrev cJx4a65c_size_8abf5 : ByteArray := prog_25_method_8_code
def yJx4a65c_size_8abf5 : MethodName := ⟨RJx4a65c, "size", "()I"⟩
abbrev cJx4a65c_elementData_915e3 : ByteArray := prog_25_method_18_code
def yJx4a65c_elementData_915e3 : MethodName := ⟨RJx4a65c, "elementData", "(I)Ljava/lang/Object;"⟩
abbrev cJx4a65c_get_915e3 : ByteArray := prog_25_method_20_code
def yJx4a65c_get_915e3 : MethodName := ⟨RJx4a65c, "get", "(I)Ljava/lang/Object;"⟩
abbrev cJx4a65c_add_72be8 : ByteArray := prog_25_method_24_code
def yJx4a65c_add_72be8 : MethodName := ⟨RJx4a65c, "add", "(Ljava/lang/Object;[Ljava/lang/Object;I)V"⟩
abbrev cJx4a65c_add_9ea2d : ByteArray := prog_25_method_25_code
def yJx4a65c_add_9ea2d : MethodName := ⟨RJx4a65c, "add", "(Ljava/lang/Object;)Z"⟩
def RJ7 : String := "java/util/Arrays"
def TJ7 : u_T := fun k => match k with
  | _ => ("", "", "", false)
def tyJ7 : Nat → FieldType := fun k => match k with
  | _ => .int
abbrev wsJ70 : List Cond := u_ws RJ7 TJ7 0
theorem nmJ7 : ∀ a, a < 0 → ∀ b, b < 0 → a ≠ b → (TJ7 a).2.1 ≠ (TJ7 b).2.1 := by decide +kernel
theorem tyJ7_ok : ∀ k, k < 0 → parseFieldDescriptor (TJ7 k).2.2.1 = some (tyJ7 k) := by decide +kernel
abbrev cJ7_fill_53178 : ByteArray := prog_26_method_103_code
def yJ7_fill_53178 : MethodName := ⟨RJ7, "fill", "([II)V"⟩
abbrev cJ7_copyOf_1904c : ByteArray := prog_26_method_119_code
def yJ7_copyOf_1904c : MethodName := ⟨RJ7, "copyOf", "([Ljava/lang/Object;I)[Ljava/lang/Object;"⟩
abbrev cJ7_copyOf_6403c : ByteArray := prog_26_method_120_code
def yJ7_copyOf_6403c : MethodName := ⟨RJ7, "copyOf", "([Ljava/lang/Object;ILjava/lang/Class;)[Ljava/lang/Object;"⟩
def RJx5ef63 : String := "java/util/Collection"
def TJx5ef63 : u_T := fun k => match k with
  | _ => ("", "", "", false)
def tyJx5ef63 : Nat → FieldType := fun k => match k with
  | _ => .int
abbrev wsJx5ef630 : List Cond := u_ws RJx5ef63 TJx5ef63 0
theorem nmJx5ef63 : ∀ a, a < 0 → ∀ b, b < 0 → a ≠ b → (TJx5ef63 a).2.1 ≠ (TJx5ef63 b).2.1 := by decide +kernel
theorem tyJx5ef63_ok : ∀ k, k < 0 → parseFieldDescriptor (TJx5ef63 k).2.2.1 = some (tyJx5ef63 k) := by decide +kernel
def RJxbd725 : String := "java/util/List"
def TJxbd725 : u_T := fun k => match k with
  | _ => ("", "", "", false)
def tyJxbd725 : Nat → FieldType := fun k => match k with
  | _ => .int
abbrev wsJxbd7250 : List Cond := u_ws RJxbd725 TJxbd725 0
theorem nmJxbd725 : ∀ a, a < 0 → ∀ b, b < 0 → a ≠ b → (TJxbd725 a).2.1 ≠ (TJxbd725 b).2.1 := by decide +kernel
theorem tyJxbd725_ok : ∀ k, k < 0 → parseFieldDescriptor (TJxbd725 k).2.2.1 = some (tyJxbd725 k) := by decide +kernel
def RJ15 : String := "java/util/Objects"
def TJ15 : u_T := fun k => match k with
  | _ => ("", "", "", false)
def tyJ15 : Nat → FieldType := fun k => match k with
  | _ => .int
abbrev wsJ150 : List Cond := u_ws RJ15 TJ15 0
theorem nmJ15 : ∀ a, a < 0 → ∀ b, b < 0 → a ≠ b → (TJ15 a).2.1 ≠ (TJ15 b).2.1 := by decide +kernel
theorem tyJ15_ok : ∀ k, k < 0 → parseFieldDescriptor (TJ15 k).2.2.1 = some (tyJ15 k) := by decide +kernel
abbrev cJ15_checkIndex_7cf53 : ByteArray := prog_29_method_17_code
def yJ15_checkIndex_7cf53 : MethodName := ⟨RJ15, "checkIndex", "(II)I"⟩
def RJxf0a74 : String := "java/util/RandomAccess"
def TJxf0a74 : u_T := fun k => match k with
  | _ => ("", "", "", false)
def tyJxf0a74 : Nat → FieldType := fun k => match k with
  | _ => .int
abbrev wsJxf0a740 : List Cond := u_ws RJxf0a74 TJxf0a74 0
theorem nmJxf0a74 : ∀ a, a < 0 → ∀ b, b < 0 → a ≠ b → (TJxf0a74 a).2.1 ≠ (TJxf0a74 b).2.1 := by decide +kernel
theorem tyJxf0a74_ok : ∀ k, k < 0 → parseFieldDescriptor (TJxf0a74 k).2.2.1 = some (tyJxf0a74 k) := by decide +kernel
def RJxa66e6 : String := "java/util/SequencedCollection"
def TJxa66e6 : u_T := fun k => match k with
  | _ => ("", "", "", false)
def tyJxa66e6 : Nat → FieldType := fun k => match k with
  | _ => .int
abbrev wsJxa66e60 : List Cond := u_ws RJxa66e6 TJxa66e6 0
theorem nmJxa66e6 : ∀ a, a < 0 → ∀ b, b < 0 → a ≠ b → (TJxa66e6 a).2.1 ≠ (TJxa66e6 b).2.1 := by decide +kernel
theorem tyJxa66e6_ok : ∀ k, k < 0 → parseFieldDescriptor (TJxa66e6 k).2.2.1 = some (tyJxa66e6 k) := by decide +kernel
def RJ8 : String := "jdk/internal/util/ArraysSupport"
def TJ8 : u_T := fun k => match k with
  | _ => ("", "", "", false)
def tyJ8 : Nat → FieldType := fun k => match k with
  | _ => .int
abbrev wsJ80 : List Cond := u_ws RJ8 TJ8 0
theorem nmJ8 : ∀ a, a < 0 → ∀ b, b < 0 → a ≠ b → (TJ8 a).2.1 ≠ (TJ8 b).2.1 := by decide +kernel
theorem tyJ8_ok : ∀ k, k < 0 → parseFieldDescriptor (TJ8 k).2.2.1 = some (tyJ8 k) := by decide +kernel
abbrev cJ8_newLength_cabcc : ByteArray := prog_32_method_27_code
def yJ8_newLength_cabcc : MethodName := ⟨RJ8, "newLength", "(III)I"⟩
abbrev cJ8_hugeLength_7cf53 : ByteArray := prog_32_method_28_code
def yJ8_hugeLength_7cf53 : MethodName := ⟨RJ8, "hugeLength", "(II)I"⟩
def RJ3 : String := "jdk/internal/util/Preconditions"
def TJ3 : u_T := fun k => match k with
  | _ => ("", "", "", false)
def tyJ3 : Nat → FieldType := fun k => match k with
  | _ => .int
abbrev wsJ30 : List Cond := u_ws RJ3 TJ3 0
theorem nmJ3 : ∀ a, a < 0 → ∀ b, b < 0 → a ≠ b → (TJ3 a).2.1 ≠ (TJ3 b).2.1 := by decide +kernel
theorem tyJ3_ok : ∀ k, k < 0 → parseFieldDescriptor (TJ3 k).2.2.1 = some (tyJ3 k) := by decide +kernel
abbrev cJ3_checkIndex_8e157 : ByteArray := prog_33_method_11_code
def yJ3_checkIndex_8e157 : MethodName := ⟨RJ3, "checkIndex", "(IILjava/util/function/BiFunction;)I"⟩
def RL : String := "RejudgeHallLaw"
abbrev cL_freeze : ByteArray := method_2_code
def yL_freeze : MethodName := ⟨RL, "freeze", "(LRejudgeHall;I)I"⟩
abbrev cL_act : ByteArray := method_3_code
def yL_act : MethodName := ⟨RL, "act", "(LRejudgeHall;IIII)I"⟩
abbrev cL_refuses : ByteArray := method_4_code
def yL_refuses : MethodName := ⟨RL, "refuses", "(LRejudgeHall;II)Z"⟩
abbrev cL_codes : ByteArray := method_5_code
def yL_codes : MethodName := ⟨RL, "codes", "(LRejudgeHall;II)I"⟩
abbrev cL_runs : ByteArray := method_6_code
def yL_runs : MethodName := ⟨RL, "runs", "(LRejudgeHall;IIIIII)Z"⟩
abbrev cL_entry : ByteArray := method_7_code
def yL_entry : MethodName := ⟨RL, "entry", "(LRejudgeHall;IIIII)Z"⟩
abbrev cL_board : ByteArray := method_8_code
def yL_board : MethodName := ⟨RL, "board", "(LRejudgeHall;IZIIII)Z"⟩
abbrev cL_machine : ByteArray := method_9_code
def yL_machine : MethodName := ⟨RL, "machine", "()Z"⟩
abbrev cL_contest : ByteArray := method_10_code
def yL_contest : MethodName := ⟨RL, "contest", "()Z"⟩
abbrev cL_boards : ByteArray := method_11_code
def yL_boards : MethodName := ⟨RL, "boards", "(LRejudgeHall;)Z"⟩
abbrev cL_tables : ByteArray := method_12_code
def yL_tables : MethodName := ⟨RL, "tables", "()Z"⟩
abbrev cL_most : ByteArray := method_13_code
def yL_most : MethodName := ⟨RL, "most", "()Z"⟩
abbrev cL_law : ByteArray := code
def yL_law : MethodName := ⟨RL, "law", "([I)Z"⟩
abbrev vwCl : List vw_C := [(RJx4a65c, TJx4a65c, 3), (RX0, TX0, 8), (RX1, TX1, 5), (RX2, TX2, 7), (RX3, TX3, 3), (RX4, TX4, 2), (RX5, TX5, 5), (RX6, TX6, 3), (RX7, TX7, 12)]
