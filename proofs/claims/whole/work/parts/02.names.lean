-- ===== PART A: goes FIRST, ahead of the names: the tables' words, and 'selects' of the private methods out of them =====
/-- a private method of a class that the tables say can be made, by its rows of tables_1 -/
def lw_okq (q : MethodName × Nat) : Prop := (q.1.cls ≠ "java/lang/invoke/MethodHandle" ∧ q.1.cls ≠ "java/lang/invoke/VarHandle") ∧ Cond.instantiable q.1.cls q.2 ∈ tables_1 ∧ Cond.privateMethod q.1 ∈ tables_1 ∧ Cond.instanceMethod q.1 ∈ tables_1
theorem lw_p0 : lw_okq (⟨"RejudgeHall$Entry", "waits", "()Z"⟩, 8) := ⟨⟨by decide +kernel, by decide +kernel⟩, List.mem_of_getElem? (i := 214) (by decide +kernel), List.mem_of_getElem? (i := 212) (by decide +kernel), List.mem_of_getElem? (i := 213) (by decide +kernel)⟩
theorem lw_p1 : lw_okq (⟨"RejudgeHall", "giveVerdict", "(LRejudgeHall$Entry;)V"⟩, 12) := ⟨⟨by decide +kernel, by decide +kernel⟩, List.mem_of_getElem? (i := 26) (by decide +kernel), List.mem_of_getElem? (i := 217) (by decide +kernel), List.mem_of_getElem? (i := 218) (by decide +kernel)⟩
theorem lw_p2 : lw_okq (⟨"RejudgeHall", "tryOut", "(LRejudgeHall$Entry;LRejudgeHall$Trial;)I"⟩, 12) := ⟨⟨by decide +kernel, by decide +kernel⟩, List.mem_of_getElem? (i := 26) (by decide +kernel), List.mem_of_getElem? (i := 222) (by decide +kernel), List.mem_of_getElem? (i := 223) (by decide +kernel)⟩
theorem lw_p3 : lw_okq (⟨"RejudgeHall$Machine", "execute", "(LRejudgeHall$Program;LRejudgeHall$Row;I)I"⟩, 5) := ⟨⟨by decide +kernel, by decide +kernel⟩, List.mem_of_getElem? (i := 70) (by decide +kernel), List.mem_of_getElem? (i := 226) (by decide +kernel), List.mem_of_getElem? (i := 227) (by decide +kernel)⟩
theorem lw_p4 : lw_okq (⟨"RejudgeHall$Machine", "step", "(LRejudgeHall$Program;LRejudgeHall$Row;)I"⟩, 5) := ⟨⟨by decide +kernel, by decide +kernel⟩, List.mem_of_getElem? (i := 70) (by decide +kernel), List.mem_of_getElem? (i := 230) (by decide +kernel), List.mem_of_getElem? (i := 231) (by decide +kernel)⟩
theorem lw_p5 : lw_okq (⟨"RejudgeHall$Program", "has", "(I)Z"⟩, 3) := ⟨⟨by decide +kernel, by decide +kernel⟩, List.mem_of_getElem? (i := 34) (by decide +kernel), List.mem_of_getElem? (i := 234) (by decide +kernel), List.mem_of_getElem? (i := 235) (by decide +kernel)⟩
theorem lw_p6 : lw_okq (⟨"RejudgeHall$Row", "at", "(I)I"⟩, 2) := ⟨⟨by decide +kernel, by decide +kernel⟩, List.mem_of_getElem? (i := 55) (by decide +kernel), List.mem_of_getElem? (i := 238) (by decide +kernel), List.mem_of_getElem? (i := 239) (by decide +kernel)⟩
theorem lw_p7 : lw_okq (⟨"RejudgeHall$Machine", "put", "(I)I"⟩, 5) := ⟨⟨by decide +kernel, by decide +kernel⟩, List.mem_of_getElem? (i := 70) (by decide +kernel), List.mem_of_getElem? (i := 242) (by decide +kernel), List.mem_of_getElem? (i := 243) (by decide +kernel)⟩
theorem lw_p8 : lw_okq (⟨"RejudgeHall$Row", "isFull", "()Z"⟩, 2) := ⟨⟨by decide +kernel, by decide +kernel⟩, List.mem_of_getElem? (i := 55) (by decide +kernel), List.mem_of_getElem? (i := 246) (by decide +kernel), List.mem_of_getElem? (i := 247) (by decide +kernel)⟩
theorem lw_p9 : lw_okq (⟨"RejudgeHall$Row", "push", "(I)V"⟩, 2) := ⟨⟨by decide +kernel, by decide +kernel⟩, List.mem_of_getElem? (i := 55) (by decide +kernel), List.mem_of_getElem? (i := 250) (by decide +kernel), List.mem_of_getElem? (i := 251) (by decide +kernel)⟩
theorem lw_p10 : lw_okq (⟨"RejudgeHall$Machine", "make", "(I)I"⟩, 5) := ⟨⟨by decide +kernel, by decide +kernel⟩, List.mem_of_getElem? (i := 70) (by decide +kernel), List.mem_of_getElem? (i := 254) (by decide +kernel), List.mem_of_getElem? (i := 255) (by decide +kernel)⟩
theorem lw_p11 : lw_okq (⟨"RejudgeHall$Row", "pop", "()I"⟩, 2) := ⟨⟨by decide +kernel, by decide +kernel⟩, List.mem_of_getElem? (i := 55) (by decide +kernel), List.mem_of_getElem? (i := 258) (by decide +kernel), List.mem_of_getElem? (i := 259) (by decide +kernel)⟩
theorem lw_p12 : lw_okq (⟨"RejudgeHall$Machine", "swap", "()I"⟩, 5) := ⟨⟨by decide +kernel, by decide +kernel⟩, List.mem_of_getElem? (i := 70) (by decide +kernel), List.mem_of_getElem? (i := 264) (by decide +kernel), List.mem_of_getElem? (i := 265) (by decide +kernel)⟩
theorem lw_p13 : lw_okq (⟨"RejudgeHall$Machine", "goIfZero", "(II)I"⟩, 5) := ⟨⟨by decide +kernel, by decide +kernel⟩, List.mem_of_getElem? (i := 70) (by decide +kernel), List.mem_of_getElem? (i := 268) (by decide +kernel), List.mem_of_getElem? (i := 269) (by decide +kernel)⟩
theorem lw_p14 : lw_okq (⟨"RejudgeHall$Machine", "goTo", "(II)I"⟩, 5) := ⟨⟨by decide +kernel, by decide +kernel⟩, List.mem_of_getElem? (i := 70) (by decide +kernel), List.mem_of_getElem? (i := 272) (by decide +kernel), List.mem_of_getElem? (i := 273) (by decide +kernel)⟩
theorem lw_p15 : lw_okq (⟨"RejudgeHall$Machine", "print", "()I"⟩, 5) := ⟨⟨by decide +kernel, by decide +kernel⟩, List.mem_of_getElem? (i := 70) (by decide +kernel), List.mem_of_getElem? (i := 276) (by decide +kernel), List.mem_of_getElem? (i := 277) (by decide +kernel)⟩
def lw_privs_1 : List (MethodName × Nat) := [(⟨"RejudgeHall$Entry", "waits", "()Z"⟩, 8), (⟨"RejudgeHall", "giveVerdict", "(LRejudgeHall$Entry;)V"⟩, 12), (⟨"RejudgeHall", "tryOut", "(LRejudgeHall$Entry;LRejudgeHall$Trial;)I"⟩, 12), (⟨"RejudgeHall$Machine", "execute", "(LRejudgeHall$Program;LRejudgeHall$Row;I)I"⟩, 5), (⟨"RejudgeHall$Machine", "step", "(LRejudgeHall$Program;LRejudgeHall$Row;)I"⟩, 5), (⟨"RejudgeHall$Program", "has", "(I)Z"⟩, 3), (⟨"RejudgeHall$Row", "at", "(I)I"⟩, 2), (⟨"RejudgeHall$Machine", "put", "(I)I"⟩, 5), (⟨"RejudgeHall$Row", "isFull", "()Z"⟩, 2), (⟨"RejudgeHall$Row", "push", "(I)V"⟩, 2), (⟨"RejudgeHall$Machine", "make", "(I)I"⟩, 5), (⟨"RejudgeHall$Row", "pop", "()I"⟩, 2), (⟨"RejudgeHall$Machine", "swap", "()I"⟩, 5), (⟨"RejudgeHall$Machine", "goIfZero", "(II)I"⟩, 5), (⟨"RejudgeHall$Machine", "goTo", "(II)I"⟩, 5), (⟨"RejudgeHall$Machine", "print", "()I"⟩, 5)]
theorem lw_r1 : ∀ q ∈ lw_privs_1, lw_okq q := List.forall_mem_cons.mpr ⟨lw_p0, List.forall_mem_cons.mpr ⟨lw_p1, List.forall_mem_cons.mpr ⟨lw_p2, List.forall_mem_cons.mpr ⟨lw_p3, List.forall_mem_cons.mpr ⟨lw_p4, List.forall_mem_cons.mpr ⟨lw_p5, List.forall_mem_cons.mpr ⟨lw_p6, List.forall_mem_cons.mpr ⟨lw_p7, List.forall_mem_cons.mpr ⟨lw_p8, List.forall_mem_cons.mpr ⟨lw_p9, List.forall_mem_cons.mpr ⟨lw_p10, List.forall_mem_cons.mpr ⟨lw_p11, List.forall_mem_cons.mpr ⟨lw_p12, List.forall_mem_cons.mpr ⟨lw_p13, List.forall_mem_cons.mpr ⟨lw_p14, List.forall_mem_cons.mpr ⟨lw_p15, fun _ h => absurd h List.not_mem_nil⟩⟩⟩⟩⟩⟩⟩⟩⟩⟩⟩⟩⟩⟩⟩⟩
theorem lw_p16 : lw_okq (⟨"RejudgeHall$Row", "isWithin", "(ILRejudgeHall$Row;)Z"⟩, 2) := ⟨⟨by decide +kernel, by decide +kernel⟩, List.mem_of_getElem? (i := 55) (by decide +kernel), List.mem_of_getElem? (i := 280) (by decide +kernel), List.mem_of_getElem? (i := 281) (by decide +kernel)⟩
theorem lw_p17 : lw_okq (⟨"RejudgeHall$Problem", "pointsOf", "(I)I"⟩, 7) := ⟨⟨by decide +kernel, by decide +kernel⟩, List.mem_of_getElem? (i := 290) (by decide +kernel), List.mem_of_getElem? (i := 288) (by decide +kernel), List.mem_of_getElem? (i := 289) (by decide +kernel)⟩
theorem lw_p18 : lw_okq (⟨"RejudgeHall", "countVerdicts", "(Z)V"⟩, 12) := ⟨⟨by decide +kernel, by decide +kernel⟩, List.mem_of_getElem? (i := 26) (by decide +kernel), List.mem_of_getElem? (i := 297) (by decide +kernel), List.mem_of_getElem? (i := 298) (by decide +kernel)⟩
theorem lw_p19 : lw_okq (⟨"RejudgeHall$Standings", "wipe", "()V"⟩, 5) := ⟨⟨by decide +kernel, by decide +kernel⟩, List.mem_of_getElem? (i := 122) (by decide +kernel), List.mem_of_getElem? (i := 301) (by decide +kernel), List.mem_of_getElem? (i := 302) (by decide +kernel)⟩
theorem lw_p20 : lw_okq (⟨"RejudgeHall", "isHidden", "(LRejudgeHall$Entry;)Z"⟩, 12) := ⟨⟨by decide +kernel, by decide +kernel⟩, List.mem_of_getElem? (i := 26) (by decide +kernel), List.mem_of_getElem? (i := 308) (by decide +kernel), List.mem_of_getElem? (i := 309) (by decide +kernel)⟩
theorem lw_p21 : lw_okq (⟨"RejudgeHall", "isLate", "(LRejudgeHall$Entry;)Z"⟩, 12) := ⟨⟨by decide +kernel, by decide +kernel⟩, List.mem_of_getElem? (i := 26) (by decide +kernel), List.mem_of_getElem? (i := 312) (by decide +kernel), List.mem_of_getElem? (i := 313) (by decide +kernel)⟩
theorem lw_p22 : lw_okq (⟨"RejudgeHall$Standings", "count", "(LRejudgeHall$Entry;Z)V"⟩, 5) := ⟨⟨by decide +kernel, by decide +kernel⟩, List.mem_of_getElem? (i := 122) (by decide +kernel), List.mem_of_getElem? (i := 319) (by decide +kernel), List.mem_of_getElem? (i := 320) (by decide +kernel)⟩
theorem lw_p23 : lw_okq (⟨"RejudgeHall", "lowestHidden", "(I)I"⟩, 12) := ⟨⟨by decide +kernel, by decide +kernel⟩, List.mem_of_getElem? (i := 26) (by decide +kernel), List.mem_of_getElem? (i := 327) (by decide +kernel), List.mem_of_getElem? (i := 328) (by decide +kernel)⟩
theorem lw_p24 : lw_okq (⟨"RejudgeHall$Standings", "isAhead", "(II)Z"⟩, 5) := ⟨⟨by decide +kernel, by decide +kernel⟩, List.mem_of_getElem? (i := 122) (by decide +kernel), List.mem_of_getElem? (i := 334) (by decide +kernel), List.mem_of_getElem? (i := 335) (by decide +kernel)⟩
theorem lw_p25 : lw_okq (⟨"java/lang/Throwable", "fillInStackTrace", "(I)Ljava/lang/Throwable;"⟩, 6) := ⟨⟨by decide +kernel, by decide +kernel⟩, List.mem_of_getElem? (i := 388) (by decide +kernel), List.mem_of_getElem? (i := 386) (by decide +kernel), List.mem_of_getElem? (i := 387) (by decide +kernel)⟩
theorem lw_p26 : lw_okq (⟨"RejudgeHall$Program", "append", "(II)V"⟩, 3) := ⟨⟨by decide +kernel, by decide +kernel⟩, List.mem_of_getElem? (i := 34) (by decide +kernel), List.mem_of_getElem? (i := 434) (by decide +kernel), List.mem_of_getElem? (i := 435) (by decide +kernel)⟩
theorem lw_p27 : lw_okq (⟨"RejudgeHall$Program", "takeFrom", "(LRejudgeHall$Program;)V"⟩, 3) := ⟨⟨by decide +kernel, by decide +kernel⟩, List.mem_of_getElem? (i := 34) (by decide +kernel), List.mem_of_getElem? (i := 503) (by decide +kernel), List.mem_of_getElem? (i := 504) (by decide +kernel)⟩
theorem lw_p28 : lw_okq (⟨"java/util/ArrayList", "add", "(Ljava/lang/Object;[Ljava/lang/Object;I)V"⟩, 3) := ⟨⟨by decide +kernel, by decide +kernel⟩, List.mem_of_getElem? (i := 96) (by decide +kernel), List.mem_of_getElem? (i := 514) (by decide +kernel), List.mem_of_getElem? (i := 515) (by decide +kernel)⟩
theorem lw_p29 : lw_okq (⟨"java/util/ArrayList", "grow", "()[Ljava/lang/Object;"⟩, 3) := ⟨⟨by decide +kernel, by decide +kernel⟩, List.mem_of_getElem? (i := 96) (by decide +kernel), List.mem_of_getElem? (i := 518) (by decide +kernel), List.mem_of_getElem? (i := 519) (by decide +kernel)⟩
theorem lw_p30 : lw_okq (⟨"java/util/ArrayList", "grow", "(I)[Ljava/lang/Object;"⟩, 3) := ⟨⟨by decide +kernel, by decide +kernel⟩, List.mem_of_getElem? (i := 96) (by decide +kernel), List.mem_of_getElem? (i := 522) (by decide +kernel), List.mem_of_getElem? (i := 523) (by decide +kernel)⟩
theorem lw_p31 : lw_okq (⟨"RejudgeHall", "problemAt", "(I)LRejudgeHall$Problem;"⟩, 12) := ⟨⟨by decide +kernel, by decide +kernel⟩, List.mem_of_getElem? (i := 26) (by decide +kernel), List.mem_of_getElem? (i := 572) (by decide +kernel), List.mem_of_getElem? (i := 573) (by decide +kernel)⟩
def lw_privs_2 : List (MethodName × Nat) := [(⟨"RejudgeHall$Row", "isWithin", "(ILRejudgeHall$Row;)Z"⟩, 2), (⟨"RejudgeHall$Problem", "pointsOf", "(I)I"⟩, 7), (⟨"RejudgeHall", "countVerdicts", "(Z)V"⟩, 12), (⟨"RejudgeHall$Standings", "wipe", "()V"⟩, 5), (⟨"RejudgeHall", "isHidden", "(LRejudgeHall$Entry;)Z"⟩, 12), (⟨"RejudgeHall", "isLate", "(LRejudgeHall$Entry;)Z"⟩, 12), (⟨"RejudgeHall$Standings", "count", "(LRejudgeHall$Entry;Z)V"⟩, 5), (⟨"RejudgeHall", "lowestHidden", "(I)I"⟩, 12), (⟨"RejudgeHall$Standings", "isAhead", "(II)Z"⟩, 5), (⟨"java/lang/Throwable", "fillInStackTrace", "(I)Ljava/lang/Throwable;"⟩, 6), (⟨"RejudgeHall$Program", "append", "(II)V"⟩, 3), (⟨"RejudgeHall$Program", "takeFrom", "(LRejudgeHall$Program;)V"⟩, 3), (⟨"java/util/ArrayList", "add", "(Ljava/lang/Object;[Ljava/lang/Object;I)V"⟩, 3), (⟨"java/util/ArrayList", "grow", "()[Ljava/lang/Object;"⟩, 3), (⟨"java/util/ArrayList", "grow", "(I)[Ljava/lang/Object;"⟩, 3), (⟨"RejudgeHall", "problemAt", "(I)LRejudgeHall$Problem;"⟩, 12)]
theorem lw_r2 : ∀ q ∈ lw_privs_2, lw_okq q := List.forall_mem_cons.mpr ⟨lw_p16, List.forall_mem_cons.mpr ⟨lw_p17, List.forall_mem_cons.mpr ⟨lw_p18, List.forall_mem_cons.mpr ⟨lw_p19, List.forall_mem_cons.mpr ⟨lw_p20, List.forall_mem_cons.mpr ⟨lw_p21, List.forall_mem_cons.mpr ⟨lw_p22, List.forall_mem_cons.mpr ⟨lw_p23, List.forall_mem_cons.mpr ⟨lw_p24, List.forall_mem_cons.mpr ⟨lw_p25, List.forall_mem_cons.mpr ⟨lw_p26, List.forall_mem_cons.mpr ⟨lw_p27, List.forall_mem_cons.mpr ⟨lw_p28, List.forall_mem_cons.mpr ⟨lw_p29, List.forall_mem_cons.mpr ⟨lw_p30, List.forall_mem_cons.mpr ⟨lw_p31, fun _ h => absurd h List.not_mem_nil⟩⟩⟩⟩⟩⟩⟩⟩⟩⟩⟩⟩⟩⟩⟩⟩
theorem lw_p32 : lw_okq (⟨"RejudgeHall", "findsAnswer", "(LRejudgeHall$Program;LRejudgeHall$Row;)Z"⟩, 12) := ⟨⟨by decide +kernel, by decide +kernel⟩, List.mem_of_getElem? (i := 26) (by decide +kernel), List.mem_of_getElem? (i := 596) (by decide +kernel), List.mem_of_getElem? (i := 597) (by decide +kernel)⟩
theorem lw_p33 : lw_okq (⟨"RejudgeHall$Row", "copyFrom", "(LRejudgeHall$Row;)V"⟩, 2) := ⟨⟨by decide +kernel, by decide +kernel⟩, List.mem_of_getElem? (i := 55) (by decide +kernel), List.mem_of_getElem? (i := 608) (by decide +kernel), List.mem_of_getElem? (i := 609) (by decide +kernel)⟩
theorem lw_p34 : lw_okq (⟨"RejudgeHall$Problem", "addTrial", "(LRejudgeHall$Trial;)V"⟩, 7) := ⟨⟨by decide +kernel, by decide +kernel⟩, List.mem_of_getElem? (i := 290) (by decide +kernel), List.mem_of_getElem? (i := 626) (by decide +kernel), List.mem_of_getElem? (i := 627) (by decide +kernel)⟩
theorem lw_p35 : lw_okq (⟨"RejudgeHall", "findsAllAnswers", "(LRejudgeHall$Problem;LRejudgeHall$Program;)Z"⟩, 12) := ⟨⟨by decide +kernel, by decide +kernel⟩, List.mem_of_getElem? (i := 26) (by decide +kernel), List.mem_of_getElem? (i := 645) (by decide +kernel), List.mem_of_getElem? (i := 646) (by decide +kernel)⟩
theorem lw_p36 : lw_okq (⟨"RejudgeHall", "renewAnswers", "(LRejudgeHall$Problem;)V"⟩, 12) := ⟨⟨by decide +kernel, by decide +kernel⟩, List.mem_of_getElem? (i := 26) (by decide +kernel), List.mem_of_getElem? (i := 650) (by decide +kernel), List.mem_of_getElem? (i := 651) (by decide +kernel)⟩
theorem lw_p37 : lw_okq (⟨"RejudgeHall$Entry", "letWait", "()V"⟩, 8) := ⟨⟨by decide +kernel, by decide +kernel⟩, List.mem_of_getElem? (i := 214) (by decide +kernel), List.mem_of_getElem? (i := 728) (by decide +kernel), List.mem_of_getElem? (i := 729) (by decide +kernel)⟩
theorem lw_p38 : lw_okq (⟨"RejudgeHall", "entryAt", "(I)LRejudgeHall$Entry;"⟩, 12) := ⟨⟨by decide +kernel, by decide +kernel⟩, List.mem_of_getElem? (i := 26) (by decide +kernel), List.mem_of_getElem? (i := 739) (by decide +kernel), List.mem_of_getElem? (i := 740) (by decide +kernel)⟩
theorem lw_p39 : lw_okq (⟨"RejudgeHall", "longestCommon", "(LRejudgeHall$Program;LRejudgeHall$Program;)I"⟩, 12) := ⟨⟨by decide +kernel, by decide +kernel⟩, List.mem_of_getElem? (i := 26) (by decide +kernel), List.mem_of_getElem? (i := 751) (by decide +kernel), List.mem_of_getElem? (i := 752) (by decide +kernel)⟩
theorem lw_p40 : lw_okq (⟨"RejudgeHall$Program", "isAlikeAt", "(ILRejudgeHall$Program;I)Z"⟩, 3) := ⟨⟨by decide +kernel, by decide +kernel⟩, List.mem_of_getElem? (i := 34) (by decide +kernel), List.mem_of_getElem? (i := 756) (by decide +kernel), List.mem_of_getElem? (i := 757) (by decide +kernel)⟩
theorem lw_p41 : lw_okq (⟨"RejudgeHall$Standings", "placeOf", "(I)I"⟩, 5) := ⟨⟨by decide +kernel, by decide +kernel⟩, List.mem_of_getElem? (i := 122) (by decide +kernel), List.mem_of_getElem? (i := 775) (by decide +kernel), List.mem_of_getElem? (i := 776) (by decide +kernel)⟩
theorem lw_p42 : lw_okq (⟨"RejudgeHall", "passesAll", "(LRejudgeHall$Entry;)Z"⟩, 12) := ⟨⟨by decide +kernel, by decide +kernel⟩, List.mem_of_getElem? (i := 26) (by decide +kernel), List.mem_of_getElem? (i := 787) (by decide +kernel), List.mem_of_getElem? (i := 788) (by decide +kernel)⟩
theorem lw_p43 : lw_okq (⟨"RejudgeHall", "hasSolved", "(ILRejudgeHall$Problem;)Z"⟩, 12) := ⟨⟨by decide +kernel, by decide +kernel⟩, List.mem_of_getElem? (i := 26) (by decide +kernel), List.mem_of_getElem? (i := 798) (by decide +kernel), List.mem_of_getElem? (i := 799) (by decide +kernel)⟩
theorem lw_p44 : lw_okq (⟨"RejudgeHallModel", "empties", "(I)V"⟩, 39) := ⟨⟨by decide +kernel, by decide +kernel⟩, List.mem_of_getElem? (i := 805) (by decide +kernel), List.mem_of_getElem? (i := 948) (by decide +kernel), List.mem_of_getElem? (i := 949) (by decide +kernel)⟩
theorem lw_p45 : lw_okq (⟨"RejudgeHallModel", "runs", "(III)V"⟩, 39) := ⟨⟨by decide +kernel, by decide +kernel⟩, List.mem_of_getElem? (i := 805) (by decide +kernel), List.mem_of_getElem? (i := 956) (by decide +kernel), List.mem_of_getElem? (i := 957) (by decide +kernel)⟩
theorem lw_p46 : lw_okq (⟨"RejudgeHallModel", "pushes", "(I)V"⟩, 39) := ⟨⟨by decide +kernel, by decide +kernel⟩, List.mem_of_getElem? (i := 805) (by decide +kernel), List.mem_of_getElem? (i := 963) (by decide +kernel), List.mem_of_getElem? (i := 964) (by decide +kernel)⟩
theorem lw_p47 : lw_okq (⟨"RejudgeHallModel", "makes", "(J)V"⟩, 39) := ⟨⟨by decide +kernel, by decide +kernel⟩, List.mem_of_getElem? (i := 805) (by decide +kernel), List.mem_of_getElem? (i := 969) (by decide +kernel), List.mem_of_getElem? (i := 970) (by decide +kernel)⟩
def lw_privs_3 : List (MethodName × Nat) := [(⟨"RejudgeHall", "findsAnswer", "(LRejudgeHall$Program;LRejudgeHall$Row;)Z"⟩, 12), (⟨"RejudgeHall$Row", "copyFrom", "(LRejudgeHall$Row;)V"⟩, 2), (⟨"RejudgeHall$Problem", "addTrial", "(LRejudgeHall$Trial;)V"⟩, 7), (⟨"RejudgeHall", "findsAllAnswers", "(LRejudgeHall$Problem;LRejudgeHall$Program;)Z"⟩, 12), (⟨"RejudgeHall", "renewAnswers", "(LRejudgeHall$Problem;)V"⟩, 12), (⟨"RejudgeHall$Entry", "letWait", "()V"⟩, 8), (⟨"RejudgeHall", "entryAt", "(I)LRejudgeHall$Entry;"⟩, 12), (⟨"RejudgeHall", "longestCommon", "(LRejudgeHall$Program;LRejudgeHall$Program;)I"⟩, 12), (⟨"RejudgeHall$Program", "isAlikeAt", "(ILRejudgeHall$Program;I)Z"⟩, 3), (⟨"RejudgeHall$Standings", "placeOf", "(I)I"⟩, 5), (⟨"RejudgeHall", "passesAll", "(LRejudgeHall$Entry;)Z"⟩, 12), (⟨"RejudgeHall", "hasSolved", "(ILRejudgeHall$Problem;)Z"⟩, 12), (⟨"RejudgeHallModel", "empties", "(I)V"⟩, 39), (⟨"RejudgeHallModel", "runs", "(III)V"⟩, 39), (⟨"RejudgeHallModel", "pushes", "(I)V"⟩, 39), (⟨"RejudgeHallModel", "makes", "(J)V"⟩, 39)]
theorem lw_r3 : ∀ q ∈ lw_privs_3, lw_okq q := List.forall_mem_cons.mpr ⟨lw_p32, List.forall_mem_cons.mpr ⟨lw_p33, List.forall_mem_cons.mpr ⟨lw_p34, List.forall_mem_cons.mpr ⟨lw_p35, List.forall_mem_cons.mpr ⟨lw_p36, List.forall_mem_cons.mpr ⟨lw_p37, List.forall_mem_cons.mpr ⟨lw_p38, List.forall_mem_cons.mpr ⟨lw_p39, List.forall_mem_cons.mpr ⟨lw_p40, List.forall_mem_cons.mpr ⟨lw_p41, List.forall_mem_cons.mpr ⟨lw_p42, List.forall_mem_cons.mpr ⟨lw_p43, List.forall_mem_cons.mpr ⟨lw_p44, List.forall_mem_cons.mpr ⟨lw_p45, List.forall_mem_cons.mpr ⟨lw_p46, List.forall_mem_cons.mpr ⟨lw_p47, fun _ h => absurd h List.not_mem_nil⟩⟩⟩⟩⟩⟩⟩⟩⟩⟩⟩⟩⟩⟩⟩⟩
theorem lw_p48 : lw_okq (⟨"RejudgeHallModel", "copies", "(II)V"⟩, 39) := ⟨⟨by decide +kernel, by decide +kernel⟩, List.mem_of_getElem? (i := 805) (by decide +kernel), List.mem_of_getElem? (i := 982) (by decide +kernel), List.mem_of_getElem? (i := 983) (by decide +kernel)⟩
theorem lw_p49 : lw_okq (⟨"RejudgeHallModel", "isProblem", "(I)Z"⟩, 39) := ⟨⟨by decide +kernel, by decide +kernel⟩, List.mem_of_getElem? (i := 805) (by decide +kernel), List.mem_of_getElem? (i := 990) (by decide +kernel), List.mem_of_getElem? (i := 991) (by decide +kernel)⟩
theorem lw_p50 : lw_okq (⟨"RejudgeHallModel", "answers", "(II)Z"⟩, 39) := ⟨⟨by decide +kernel, by decide +kernel⟩, List.mem_of_getElem? (i := 805) (by decide +kernel), List.mem_of_getElem? (i := 997) (by decide +kernel), List.mem_of_getElem? (i := 998) (by decide +kernel)⟩
theorem lw_p51 : lw_okq (⟨"RejudgeHallModel", "becomes", "(II)V"⟩, 39) := ⟨⟨by decide +kernel, by decide +kernel⟩, List.mem_of_getElem? (i := 805) (by decide +kernel), List.mem_of_getElem? (i := 1001) (by decide +kernel), List.mem_of_getElem? (i := 1002) (by decide +kernel)⟩
theorem lw_p52 : lw_okq (⟨"RejudgeHallModel", "judges", "(I)V"⟩, 39) := ⟨⟨by decide +kernel, by decide +kernel⟩, List.mem_of_getElem? (i := 805) (by decide +kernel), List.mem_of_getElem? (i := 1032) (by decide +kernel), List.mem_of_getElem? (i := 1033) (by decide +kernel)⟩
theorem lw_p53 : lw_okq (⟨"RejudgeHallModel", "does", "(III)I"⟩, 39) := ⟨⟨by decide +kernel, by decide +kernel⟩, List.mem_of_getElem? (i := 805) (by decide +kernel), List.mem_of_getElem? (i := 1036) (by decide +kernel), List.mem_of_getElem? (i := 1037) (by decide +kernel)⟩
theorem lw_p54 : lw_okq (⟨"RejudgeHallModel", "firstFailed", "(I)I"⟩, 39) := ⟨⟨by decide +kernel, by decide +kernel⟩, List.mem_of_getElem? (i := 805) (by decide +kernel), List.mem_of_getElem? (i := 1040) (by decide +kernel), List.mem_of_getElem? (i := 1041) (by decide +kernel)⟩
theorem lw_p55 : lw_okq (⟨"RejudgeHallModel", "isEntry", "(I)Z"⟩, 39) := ⟨⟨by decide +kernel, by decide +kernel⟩, List.mem_of_getElem? (i := 805) (by decide +kernel), List.mem_of_getElem? (i := 1052) (by decide +kernel), List.mem_of_getElem? (i := 1053) (by decide +kernel)⟩
theorem lw_p56 : lw_okq (⟨"RejudgeHallModel", "areAlike", "(II)Z"⟩, 39) := ⟨⟨by decide +kernel, by decide +kernel⟩, List.mem_of_getElem? (i := 805) (by decide +kernel), List.mem_of_getElem? (i := 1060) (by decide +kernel), List.mem_of_getElem? (i := 1061) (by decide +kernel)⟩
theorem lw_p57 : lw_okq (⟨"RejudgeHallModel", "tells", "(Z)V"⟩, 39) := ⟨⟨by decide +kernel, by decide +kernel⟩, List.mem_of_getElem? (i := 805) (by decide +kernel), List.mem_of_getElem? (i := 1072) (by decide +kernel), List.mem_of_getElem? (i := 1073) (by decide +kernel)⟩
theorem lw_p58 : lw_okq (⟨"RejudgeHallModel", "isLate", "(I)Z"⟩, 39) := ⟨⟨by decide +kernel, by decide +kernel⟩, List.mem_of_getElem? (i := 805) (by decide +kernel), List.mem_of_getElem? (i := 1076) (by decide +kernel), List.mem_of_getElem? (i := 1077) (by decide +kernel)⟩
theorem lw_p59 : lw_okq (⟨"RejudgeHallModel", "boards", "()V"⟩, 39) := ⟨⟨by decide +kernel, by decide +kernel⟩, List.mem_of_getElem? (i := 805) (by decide +kernel), List.mem_of_getElem? (i := 1080) (by decide +kernel), List.mem_of_getElem? (i := 1081) (by decide +kernel)⟩
theorem lw_p60 : lw_okq (⟨"RejudgeHallModel", "counts", "(II)I"⟩, 39) := ⟨⟨by decide +kernel, by decide +kernel⟩, List.mem_of_getElem? (i := 805) (by decide +kernel), List.mem_of_getElem? (i := 1084) (by decide +kernel), List.mem_of_getElem? (i := 1085) (by decide +kernel)⟩
theorem lw_p61 : lw_okq (⟨"RejudgeHallModel", "toReveal", "(I)I"⟩, 39) := ⟨⟨by decide +kernel, by decide +kernel⟩, List.mem_of_getElem? (i := 805) (by decide +kernel), List.mem_of_getElem? (i := 1088) (by decide +kernel), List.mem_of_getElem? (i := 1089) (by decide +kernel)⟩
theorem lw_p62 : lw_okq (⟨"RejudgeHallModel", "isAhead", "(II)Z"⟩, 39) := ⟨⟨by decide +kernel, by decide +kernel⟩, List.mem_of_getElem? (i := 805) (by decide +kernel), List.mem_of_getElem? (i := 1092) (by decide +kernel), List.mem_of_getElem? (i := 1093) (by decide +kernel)⟩
theorem lw_p63 : lw_okq (⟨"RejudgeHallModel", "placeOf", "(I)I"⟩, 39) := ⟨⟨by decide +kernel, by decide +kernel⟩, List.mem_of_getElem? (i := 805) (by decide +kernel), List.mem_of_getElem? (i := 1100) (by decide +kernel), List.mem_of_getElem? (i := 1101) (by decide +kernel)⟩
def lw_privs_4 : List (MethodName × Nat) := [(⟨"RejudgeHallModel", "copies", "(II)V"⟩, 39), (⟨"RejudgeHallModel", "isProblem", "(I)Z"⟩, 39), (⟨"RejudgeHallModel", "answers", "(II)Z"⟩, 39), (⟨"RejudgeHallModel", "becomes", "(II)V"⟩, 39), (⟨"RejudgeHallModel", "judges", "(I)V"⟩, 39), (⟨"RejudgeHallModel", "does", "(III)I"⟩, 39), (⟨"RejudgeHallModel", "firstFailed", "(I)I"⟩, 39), (⟨"RejudgeHallModel", "isEntry", "(I)Z"⟩, 39), (⟨"RejudgeHallModel", "areAlike", "(II)Z"⟩, 39), (⟨"RejudgeHallModel", "tells", "(Z)V"⟩, 39), (⟨"RejudgeHallModel", "isLate", "(I)Z"⟩, 39), (⟨"RejudgeHallModel", "boards", "()V"⟩, 39), (⟨"RejudgeHallModel", "counts", "(II)I"⟩, 39), (⟨"RejudgeHallModel", "toReveal", "(I)I"⟩, 39), (⟨"RejudgeHallModel", "isAhead", "(II)Z"⟩, 39), (⟨"RejudgeHallModel", "placeOf", "(I)I"⟩, 39)]
theorem lw_r4 : ∀ q ∈ lw_privs_4, lw_okq q := List.forall_mem_cons.mpr ⟨lw_p48, List.forall_mem_cons.mpr ⟨lw_p49, List.forall_mem_cons.mpr ⟨lw_p50, List.forall_mem_cons.mpr ⟨lw_p51, List.forall_mem_cons.mpr ⟨lw_p52, List.forall_mem_cons.mpr ⟨lw_p53, List.forall_mem_cons.mpr ⟨lw_p54, List.forall_mem_cons.mpr ⟨lw_p55, List.forall_mem_cons.mpr ⟨lw_p56, List.forall_mem_cons.mpr ⟨lw_p57, List.forall_mem_cons.mpr ⟨lw_p58, List.forall_mem_cons.mpr ⟨lw_p59, List.forall_mem_cons.mpr ⟨lw_p60, List.forall_mem_cons.mpr ⟨lw_p61, List.forall_mem_cons.mpr ⟨lw_p62, List.forall_mem_cons.mpr ⟨lw_p63, fun _ h => absurd h List.not_mem_nil⟩⟩⟩⟩⟩⟩⟩⟩⟩⟩⟩⟩⟩⟩⟩⟩
def lw_privs : List (MethodName × Nat) := lw_privs_1 ++ (lw_privs_2 ++ (lw_privs_3 ++ (lw_privs_4)))
def lw_tbl : List Cond := k2_sels lw_privs ++ tables_1
theorem lw_privs_ok : ∀ q ∈ lw_privs, lw_okq q := by
  show ∀ q ∈ lw_privs_1 ++ (lw_privs_2 ++ (lw_privs_3 ++ (lw_privs_4))), lw_okq q
  exact List.forall_mem_append.mpr ⟨lw_r1, List.forall_mem_append.mpr ⟨lw_r2, List.forall_mem_append.mpr ⟨lw_r3, lw_r4⟩⟩⟩
-- ===== end of PART A; then your names; then what follows =====
def RX0 : String := "RejudgeHall$Entry"
def TX0 : u_T := fun k => match k with
  | 0 => ("RejudgeHall$Entry", "team", "I", true)
  | 1 => ("RejudgeHall$Entry", "problem", "LRejudgeHall$Problem;", true)
  | 2 => ("RejudgeHall$Entry", "minute", "I", true)
  | 3 => ("RejudgeHall$Entry", "program", "LRejudgeHall$Program;", true)
  | 4 => ("RejudgeHall$Entry", "verdict", "I", false)
  | 5 => ("RejudgeHall$Entry", "failedTest", "I", false)
  | 6 => ("RejudgeHall$Entry", "score", "I", false)
  | _ => ("RejudgeHall$Entry", "version", "I", false)
def tyX0 : Nat → FieldType := fun k => match k with
  | 0 => .int
  | 1 => .object "RejudgeHall$Problem"
  | 2 => .int
  | 3 => .object "RejudgeHall$Program"
  | 4 => .int
  | 5 => .int
  | 6 => .int
  | _ => .int
abbrev wsX00 : List Cond := u_ws RX0 TX0 8
theorem nmX0 : ∀ a, a < 8 → ∀ b, b < 8 → a ≠ b → (TX0 a).2.1 ≠ (TX0 b).2.1 := by decide +kernel
theorem tyX0_ok : ∀ k, k < 8 → parseFieldDescriptor (TX0 k).2.2.1 = some (tyX0 k) := by decide +kernel
abbrev cX0_init : ByteArray := prog_2_method_1_code
def yX0_init : MethodName := ⟨RX0, "<init>", "(ILRejudgeHall$Problem;I)V"⟩
abbrev cX0_waits : ByteArray := prog_2_method_2_code
def yX0_waits : MethodName := ⟨RX0, "waits", "()Z"⟩
abbrev cX0_letWait : ByteArray := prog_2_method_3_code
def yX0_letWait : MethodName := ⟨RX0, "letWait", "()V"⟩
def RX1 : String := "RejudgeHall$Machine"
def TX1 : u_T := fun k => match k with
  | 0 => ("RejudgeHall$Machine", "stack", "LRejudgeHall$Row;", true)
  | 1 => ("RejudgeHall$Machine", "output", "LRejudgeHall$Row;", true)
  | 2 => ("RejudgeHall$Machine", "steps", "I", false)
  | 3 => ("RejudgeHall$Machine", "next", "I", false)
  | _ => ("RejudgeHall$Machine", "inputsRead", "I", false)
def tyX1 : Nat → FieldType := fun k => match k with
  | 0 => .object "RejudgeHall$Row"
  | 1 => .object "RejudgeHall$Row"
  | 2 => .int
  | 3 => .int
  | _ => .int
abbrev wsX10 : List Cond := u_ws RX1 TX1 5
theorem nmX1 : ∀ a, a < 5 → ∀ b, b < 5 → a ≠ b → (TX1 a).2.1 ≠ (TX1 b).2.1 := by decide +kernel
theorem tyX1_ok : ∀ k, k < 5 → parseFieldDescriptor (TX1 k).2.2.1 = some (tyX1 k) := by decide +kernel
abbrev cX1_init : ByteArray := prog_3_method_1_code
def yX1_init : MethodName := ⟨RX1, "<init>", "()V"⟩
abbrev cX1_execute : ByteArray := prog_3_method_2_code
def yX1_execute : MethodName := ⟨RX1, "execute", "(LRejudgeHall$Program;LRejudgeHall$Row;I)I"⟩
abbrev cX1_step : ByteArray := prog_3_method_3_code
def yX1_step : MethodName := ⟨RX1, "step", "(LRejudgeHall$Program;LRejudgeHall$Row;)I"⟩
abbrev cX1_put : ByteArray := prog_3_method_4_code
def yX1_put : MethodName := ⟨RX1, "put", "(I)I"⟩
abbrev cX1_make : ByteArray := prog_3_method_5_code
def yX1_make : MethodName := ⟨RX1, "make", "(I)I"⟩
abbrev cX1_swap : ByteArray := prog_3_method_6_code
def yX1_swap : MethodName := ⟨RX1, "swap", "()I"⟩
abbrev cX1_goIfZero : ByteArray := prog_3_method_7_code
def yX1_goIfZero : MethodName := ⟨RX1, "goIfZero", "(II)I"⟩
abbrev cX1_goTo : ByteArray := prog_3_method_8_code
def yX1_goTo : MethodName := ⟨RX1, "goTo", "(II)I"⟩
abbrev cX1_print : ByteArray := prog_3_method_9_code
def yX1_print : MethodName := ⟨RX1, "print", "()I"⟩
def RX2 : String := "RejudgeHall$Problem"
def TX2 : u_T := fun k => match k with
  | 0 => ("RejudgeHall$Problem", "number", "I", true)
  | 1 => ("RejudgeHall$Problem", "limit", "I", true)
  | 2 => ("RejudgeHall$Problem", "solution", "LRejudgeHall$Program;", true)
  | 3 => ("RejudgeHall$Problem", "trials", "Ljava/util/ArrayList;", true)
  | 4 => ("RejudgeHall$Problem", "points", "[I", true)
  | 5 => ("RejudgeHall$Problem", "checker", "I", false)
  | _ => ("RejudgeHall$Problem", "version", "I", false)
def tyX2 : Nat → FieldType := fun k => match k with
  | 0 => .int
  | 1 => .int
  | 2 => .object "RejudgeHall$Program"
  | 3 => .object "java/util/ArrayList"
  | 4 => .array .int
  | 5 => .int
  | _ => .int
abbrev wsX20 : List Cond := u_ws RX2 TX2 7
theorem nmX2 : ∀ a, a < 7 → ∀ b, b < 7 → a ≠ b → (TX2 a).2.1 ≠ (TX2 b).2.1 := by decide +kernel
theorem tyX2_ok : ∀ k, k < 7 → parseFieldDescriptor (TX2 k).2.2.1 = some (tyX2 k) := by decide +kernel
abbrev cX2_init : ByteArray := prog_4_method_1_code
def yX2_init : MethodName := ⟨RX2, "<init>", "(III)V"⟩
abbrev cX2_addTrial : ByteArray := prog_4_method_2_code
def yX2_addTrial : MethodName := ⟨RX2, "addTrial", "(LRejudgeHall$Trial;)V"⟩
abbrev cX2_pointsOf : ByteArray := prog_4_method_3_code
def yX2_pointsOf : MethodName := ⟨RX2, "pointsOf", "(I)I"⟩
def RX3 : String := "RejudgeHall$Program"
def TX3 : u_T := fun k => match k with
  | 0 => ("RejudgeHall$Program", "sorts", "[I", true)
  | 1 => ("RejudgeHall$Program", "numbers", "[I", true)
  | _ => ("RejudgeHall$Program", "length", "I", false)
def tyX3 : Nat → FieldType := fun k => match k with
  | 0 => .array .int
  | 1 => .array .int
  | _ => .int
abbrev wsX30 : List Cond := u_ws RX3 TX3 3
theorem nmX3 : ∀ a, a < 3 → ∀ b, b < 3 → a ≠ b → (TX3 a).2.1 ≠ (TX3 b).2.1 := by decide +kernel
theorem tyX3_ok : ∀ k, k < 3 → parseFieldDescriptor (TX3 k).2.2.1 = some (tyX3 k) := by decide +kernel
abbrev cX3_init : ByteArray := prog_5_method_1_code
def yX3_init : MethodName := ⟨RX3, "<init>", "()V"⟩
abbrev cX3_append : ByteArray := prog_5_method_2_code
def yX3_append : MethodName := ⟨RX3, "append", "(II)V"⟩
abbrev cX3_takeFrom : ByteArray := prog_5_method_3_code
def yX3_takeFrom : MethodName := ⟨RX3, "takeFrom", "(LRejudgeHall$Program;)V"⟩
abbrev cX3_has : ByteArray := prog_5_method_4_code
def yX3_has : MethodName := ⟨RX3, "has", "(I)Z"⟩
abbrev cX3_isAlikeAt : ByteArray := prog_5_method_5_code
def yX3_isAlikeAt : MethodName := ⟨RX3, "isAlikeAt", "(ILRejudgeHall$Program;I)Z"⟩
def RX4 : String := "RejudgeHall$Row"
def TX4 : u_T := fun k => match k with
  | 0 => ("RejudgeHall$Row", "numbers", "[I", true)
  | _ => ("RejudgeHall$Row", "length", "I", false)
def tyX4 : Nat → FieldType := fun k => match k with
  | 0 => .array .int
  | _ => .int
abbrev wsX40 : List Cond := u_ws RX4 TX4 2
theorem nmX4 : ∀ a, a < 2 → ∀ b, b < 2 → a ≠ b → (TX4 a).2.1 ≠ (TX4 b).2.1 := by decide +kernel
theorem tyX4_ok : ∀ k, k < 2 → parseFieldDescriptor (TX4 k).2.2.1 = some (tyX4 k) := by decide +kernel
abbrev cX4_init : ByteArray := prog_6_method_1_code
def yX4_init : MethodName := ⟨RX4, "<init>", "()V"⟩
abbrev cX4_isFull : ByteArray := prog_6_method_2_code
def yX4_isFull : MethodName := ⟨RX4, "isFull", "()Z"⟩
abbrev cX4_push : ByteArray := prog_6_method_3_code
def yX4_push : MethodName := ⟨RX4, "push", "(I)V"⟩
abbrev cX4_pop : ByteArray := prog_6_method_4_code
def yX4_pop : MethodName := ⟨RX4, "pop", "()I"⟩
abbrev cX4_at : ByteArray := prog_6_method_5_code
def yX4_at : MethodName := ⟨RX4, "at", "(I)I"⟩
abbrev cX4_copyFrom : ByteArray := prog_6_method_6_code
def yX4_copyFrom : MethodName := ⟨RX4, "copyFrom", "(LRejudgeHall$Row;)V"⟩
abbrev cX4_isWithin : ByteArray := prog_6_method_7_code
def yX4_isWithin : MethodName := ⟨RX4, "isWithin", "(ILRejudgeHall$Row;)Z"⟩
def RX5 : String := "RejudgeHall$Standings"
def TX5 : u_T := fun k => match k with
  | 0 => ("RejudgeHall$Standings", "solved", "[I", true)
  | 1 => ("RejudgeHall$Standings", "sums", "[I", true)
  | 2 => ("RejudgeHall$Standings", "latest", "[I", true)
  | 3 => ("RejudgeHall$Standings", "tries", "[I", true)
  | _ => ("RejudgeHall$Standings", "isSolved", "[Z", true)
def tyX5 : Nat → FieldType := fun k => match k with
  | 0 => .array .int
  | 1 => .array .int
  | 2 => .array .int
  | 3 => .array .int
  | _ => .array .boolean
abbrev wsX50 : List Cond := u_ws RX5 TX5 5
theorem nmX5 : ∀ a, a < 5 → ∀ b, b < 5 → a ≠ b → (TX5 a).2.1 ≠ (TX5 b).2.1 := by decide +kernel
theorem tyX5_ok : ∀ k, k < 5 → parseFieldDescriptor (TX5 k).2.2.1 = some (tyX5 k) := by decide +kernel
abbrev cX5_init : ByteArray := prog_7_method_1_code
def yX5_init : MethodName := ⟨RX5, "<init>", "()V"⟩
abbrev cX5_wipe : ByteArray := prog_7_method_2_code
def yX5_wipe : MethodName := ⟨RX5, "wipe", "()V"⟩
abbrev cX5_count : ByteArray := prog_7_method_3_code
def yX5_count : MethodName := ⟨RX5, "count", "(LRejudgeHall$Entry;Z)V"⟩
abbrev cX5_isAhead : ByteArray := prog_7_method_4_code
def yX5_isAhead : MethodName := ⟨RX5, "isAhead", "(II)Z"⟩
abbrev cX5_placeOf : ByteArray := prog_7_method_5_code
def yX5_placeOf : MethodName := ⟨RX5, "placeOf", "(I)I"⟩
def RX6 : String := "RejudgeHall$Trial"
def TX6 : u_T := fun k => match k with
  | 0 => ("RejudgeHall$Trial", "input", "LRejudgeHall$Row;", true)
  | 1 => ("RejudgeHall$Trial", "answer", "LRejudgeHall$Row;", true)
  | _ => ("RejudgeHall$Trial", "group", "I", true)
def tyX6 : Nat → FieldType := fun k => match k with
  | 0 => .object "RejudgeHall$Row"
  | 1 => .object "RejudgeHall$Row"
  | _ => .int
abbrev wsX60 : List Cond := u_ws RX6 TX6 3
theorem nmX6 : ∀ a, a < 3 → ∀ b, b < 3 → a ≠ b → (TX6 a).2.1 ≠ (TX6 b).2.1 := by decide +kernel
theorem tyX6_ok : ∀ k, k < 3 → parseFieldDescriptor (TX6 k).2.2.1 = some (tyX6 k) := by decide +kernel
abbrev cX6_init : ByteArray := prog_8_method_1_code
def yX6_init : MethodName := ⟨RX6, "<init>", "(LRejudgeHall$Row;LRejudgeHall$Row;I)V"⟩
def RX7 : String := "RejudgeHall"
def TX7 : u_T := fun k => match k with
  | 0 => ("RejudgeHall", "deskProgram", "LRejudgeHall$Program;", true)
  | 1 => ("RejudgeHall", "deskInput", "LRejudgeHall$Row;", true)
  | 2 => ("RejudgeHall", "machine", "LRejudgeHall$Machine;", true)
  | 3 => ("RejudgeHall", "problems", "Ljava/util/ArrayList;", true)
  | 4 => ("RejudgeHall", "entries", "Ljava/util/ArrayList;", true)
  | 5 => ("RejudgeHall", "standings", "LRejudgeHall$Standings;", true)
  | 6 => ("RejudgeHall", "judgings", "[I", true)
  | 7 => ("RejudgeHall", "hacks", "[I", true)
  | 8 => ("RejudgeHall", "revealed", "[Z", true)
  | 9 => ("RejudgeHall", "commonRow", "[I", true)
  | 10 => ("RejudgeHall", "minute", "I", false)
  | _ => ("RejudgeHall", "frozenFrom", "I", false)
def tyX7 : Nat → FieldType := fun k => match k with
  | 0 => .object "RejudgeHall$Program"
  | 1 => .object "RejudgeHall$Row"
  | 2 => .object "RejudgeHall$Machine"
  | 3 => .object "java/util/ArrayList"
  | 4 => .object "java/util/ArrayList"
  | 5 => .object "RejudgeHall$Standings"
  | 6 => .array .int
  | 7 => .array .int
  | 8 => .array .boolean
  | 9 => .array .int
  | 10 => .int
  | _ => .int
abbrev wsX70 : List Cond := u_ws RX7 TX7 12
theorem nmX7 : ∀ a, a < 12 → ∀ b, b < 12 → a ≠ b → (TX7 a).2.1 ≠ (TX7 b).2.1 := by decide +kernel
theorem tyX7_ok : ∀ k, k < 12 → parseFieldDescriptor (TX7 k).2.2.1 = some (tyX7 k) := by decide +kernel
abbrev cX7_init : ByteArray := prog_1_method_1_code
def yX7_init : MethodName := ⟨RX7, "<init>", "()V"⟩
abbrev cX7_code : ByteArray := prog_1_method_2_code
def yX7_code : MethodName := ⟨RX7, "code", "(II)I"⟩
abbrev cX7_input : ByteArray := prog_1_method_3_code
def yX7_input : MethodName := ⟨RX7, "input", "(I)I"⟩
abbrev cX7_clear : ByteArray := prog_1_method_4_code
def yX7_clear : MethodName := ⟨RX7, "clear", "()I"⟩
abbrev cX7_run : ByteArray := prog_1_method_5_code
def yX7_run : MethodName := ⟨RX7, "run", "(II)I"⟩
abbrev cX7_problem : ByteArray := prog_1_method_6_code
def yX7_problem : MethodName := ⟨RX7, "problem", "(II)I"⟩
abbrev cX7_test : ByteArray := prog_1_method_7_code
def yX7_test : MethodName := ⟨RX7, "test", "(II)I"⟩
abbrev cX7_points : ByteArray := prog_1_method_8_code
def yX7_points : MethodName := ⟨RX7, "points", "(III)I"⟩
abbrev cX7_mend : ByteArray := prog_1_method_9_code
def yX7_mend : MethodName := ⟨RX7, "mend", "(II)I"⟩
abbrev cX7_answer : ByteArray := prog_1_method_10_code
def yX7_answer : MethodName := ⟨RX7, "answer", "(III)I"⟩
abbrev cX7_enter : ByteArray := prog_1_method_11_code
def yX7_enter : MethodName := ⟨RX7, "enter", "(II)I"⟩
abbrev cX7_pass : ByteArray := prog_1_method_12_code
def yX7_pass : MethodName := ⟨RX7, "pass", "(I)I"⟩
abbrev cX7_judge : ByteArray := prog_1_method_13_code
def yX7_judge : MethodName := ⟨RX7, "judge", "()I"⟩
abbrev cX7_rejudge : ByteArray := prog_1_method_14_code
def yX7_rejudge : MethodName := ⟨RX7, "rejudge", "(I)I"⟩
abbrev cX7_entry : ByteArray := prog_1_method_15_code
def yX7_entry : MethodName := ⟨RX7, "entry", "(II)I"⟩
abbrev cX7_likeness : ByteArray := prog_1_method_16_code
def yX7_likeness : MethodName := ⟨RX7, "likeness", "(II)I"⟩
abbrev cX7_freeze : ByteArray := prog_1_method_17_code
def yX7_freeze : MethodName := ⟨RX7, "freeze", "(I)V"⟩
abbrev cX7_reveal : ByteArray := prog_1_method_18_code
def yX7_reveal : MethodName := ⟨RX7, "reveal", "()I"⟩
abbrev cX7_board : ByteArray := prog_1_method_19_code
def yX7_board : MethodName := ⟨RX7, "board", "(IZI)I"⟩
abbrev cX7_placeAnew : ByteArray := prog_1_method_20_code
def yX7_placeAnew : MethodName := ⟨RX7, "placeAnew", "(I)I"⟩
abbrev cX7_hack : ByteArray := prog_1_method_21_code
def yX7_hack : MethodName := ⟨RX7, "hack", "(II)Z"⟩
abbrev cX7_needRange : ByteArray := prog_1_method_22_code
def yX7_needRange : MethodName := ⟨RX7, "needRange", "(III)V"⟩
abbrev cX7_needIndex : ByteArray := prog_1_method_23_code
def yX7_needIndex : MethodName := ⟨RX7, "needIndex", "(II)V"⟩
abbrev cX7_problemAt : ByteArray := prog_1_method_24_code
def yX7_problemAt : MethodName := ⟨RX7, "problemAt", "(I)LRejudgeHall$Problem;"⟩
abbrev cX7_entryAt : ByteArray := prog_1_method_25_code
def yX7_entryAt : MethodName := ⟨RX7, "entryAt", "(I)LRejudgeHall$Entry;"⟩
abbrev cX7_findsAnswer : ByteArray := prog_1_method_26_code
def yX7_findsAnswer : MethodName := ⟨RX7, "findsAnswer", "(LRejudgeHall$Program;LRejudgeHall$Row;)Z"⟩
abbrev cX7_findsAllAnswers : ByteArray := prog_1_method_27_code
def yX7_findsAllAnswers : MethodName := ⟨RX7, "findsAllAnswers", "(LRejudgeHall$Problem;LRejudgeHall$Program;)Z"⟩
abbrev cX7_renewAnswers : ByteArray := prog_1_method_28_code
def yX7_renewAnswers : MethodName := ⟨RX7, "renewAnswers", "(LRejudgeHall$Problem;)V"⟩
abbrev cX7_tryOut : ByteArray := prog_1_method_29_code
def yX7_tryOut : MethodName := ⟨RX7, "tryOut", "(LRejudgeHall$Entry;LRejudgeHall$Trial;)I"⟩
abbrev cX7_passesAll : ByteArray := prog_1_method_30_code
def yX7_passesAll : MethodName := ⟨RX7, "passesAll", "(LRejudgeHall$Entry;)Z"⟩
abbrev cX7_giveVerdict : ByteArray := prog_1_method_31_code
def yX7_giveVerdict : MethodName := ⟨RX7, "giveVerdict", "(LRejudgeHall$Entry;)V"⟩
abbrev cX7_hasSolved : ByteArray := prog_1_method_32_code
def yX7_hasSolved : MethodName := ⟨RX7, "hasSolved", "(ILRejudgeHall$Problem;)Z"⟩
abbrev cX7_longestCommon : ByteArray := prog_1_method_33_code
def yX7_longestCommon : MethodName := ⟨RX7, "longestCommon", "(LRejudgeHall$Program;LRejudgeHall$Program;)I"⟩
abbrev cX7_pairOf : ByteArray := prog_1_method_34_code
def yX7_pairOf : MethodName := ⟨RX7, "pairOf", "(II)I"⟩
abbrev cX7_isLate : ByteArray := prog_1_method_35_code
def yX7_isLate : MethodName := ⟨RX7, "isLate", "(LRejudgeHall$Entry;)Z"⟩
abbrev cX7_isHidden : ByteArray := prog_1_method_36_code
def yX7_isHidden : MethodName := ⟨RX7, "isHidden", "(LRejudgeHall$Entry;)Z"⟩
abbrev cX7_countVerdicts : ByteArray := prog_1_method_37_code
def yX7_countVerdicts : MethodName := ⟨RX7, "countVerdicts", "(Z)V"⟩
abbrev cX7_lowestHidden : ByteArray := prog_1_method_38_code
def yX7_lowestHidden : MethodName := ⟨RX7, "lowestHidden", "(I)I"⟩
def RX8 : String := "RejudgeHallModel"
def TX8 : u_T := fun k => match k with
  | 0 => ("RejudgeHallModel", "minute", "I", false)
  | 1 => ("RejudgeHallModel", "size", "[I", true)
  | 2 => ("RejudgeHallModel", "sort", "[I", true)
  | 3 => ("RejudgeHallModel", "number", "[I", true)
  | 4 => ("RejudgeHallModel", "given", "[I", true)
  | 5 => ("RejudgeHallModel", "inputs", "[I", true)
  | 6 => ("RejudgeHallModel", "problems", "I", false)
  | 7 => ("RejudgeHallModel", "limit", "[I", true)
  | 8 => ("RejudgeHallModel", "checker", "[I", true)
  | 9 => ("RejudgeHallModel", "version", "[I", true)
  | 10 => ("RejudgeHallModel", "tests", "[I", true)
  | 11 => ("RejudgeHallModel", "groupOf", "[I", true)
  | 12 => ("RejudgeHallModel", "points", "[I", true)
  | 13 => ("RejudgeHallModel", "entries", "I", false)
  | 14 => ("RejudgeHallModel", "team", "[I", true)
  | 15 => ("RejudgeHallModel", "problemOf", "[I", true)
  | 16 => ("RejudgeHallModel", "when", "[I", true)
  | 17 => ("RejudgeHallModel", "verdict", "[I", true)
  | 18 => ("RejudgeHallModel", "failed", "[I", true)
  | 19 => ("RejudgeHallModel", "score", "[I", true)
  | 20 => ("RejudgeHallModel", "judgedBy", "[I", true)
  | 21 => ("RejudgeHallModel", "judgings", "[I", true)
  | 22 => ("RejudgeHallModel", "hacks", "[I", true)
  | 23 => ("RejudgeHallModel", "frozenFrom", "I", false)
  | 24 => ("RejudgeHallModel", "revealed", "[Z", true)
  | 25 => ("RejudgeHallModel", "fails", "I", false)
  | 26 => ("RejudgeHallModel", "steps", "I", false)
  | 27 => ("RejudgeHallModel", "printed", "I", false)
  | 28 => ("RejudgeHallModel", "output", "[I", true)
  | 29 => ("RejudgeHallModel", "stack", "[I", true)
  | 30 => ("RejudgeHallModel", "pushed", "I", false)
  | 31 => ("RejudgeHallModel", "answered", "I", false)
  | 32 => ("RejudgeHallModel", "answer", "[I", true)
  | 33 => ("RejudgeHallModel", "told", "[I", true)
  | 34 => ("RejudgeHallModel", "solved", "[I", true)
  | 35 => ("RejudgeHallModel", "sum", "[I", true)
  | 36 => ("RejudgeHallModel", "latest", "[I", true)
  | 37 => ("RejudgeHallModel", "row", "[I", true)
  | _ => ("RejudgeHallModel", "thrown", "I", false)
def tyX8 : Nat → FieldType := fun k => match k with
  | 0 => .int
  | 1 => .array .int
  | 2 => .array .int
  | 3 => .array .int
  | 4 => .array .int
  | 5 => .array .int
  | 6 => .int
  | 7 => .array .int
  | 8 => .array .int
  | 9 => .array .int
  | 10 => .array .int
  | 11 => .array .int
  | 12 => .array .int
  | 13 => .int
  | 14 => .array .int
  | 15 => .array .int
  | 16 => .array .int
  | 17 => .array .int
  | 18 => .array .int
  | 19 => .array .int
  | 20 => .array .int
  | 21 => .array .int
  | 22 => .array .int
  | 23 => .int
  | 24 => .array .boolean
  | 25 => .int
  | 26 => .int
  | 27 => .int
  | 28 => .array .int
  | 29 => .array .int
  | 30 => .int
  | 31 => .int
  | 32 => .array .int
  | 33 => .array .int
  | 34 => .array .int
  | 35 => .array .int
  | 36 => .array .int
  | 37 => .array .int
  | _ => .int
abbrev wsX80 : List Cond := u_ws RX8 TX8 39
theorem nmX8 : ∀ a, a < 39 → ∀ b, b < 39 → a ≠ b → (TX8 a).2.1 ≠ (TX8 b).2.1 := by decide +kernel
theorem tyX8_ok : ∀ k, k < 39 → parseFieldDescriptor (TX8 k).2.2.1 = some (tyX8 k) := by decide +kernel
abbrev cX8_init : ByteArray := prog_10_method_1_code
def yX8_init : MethodName := ⟨RX8, "<init>", "()V"⟩
abbrev cX8_thrown : ByteArray := prog_10_method_2_code
def yX8_thrown : MethodName := ⟨RX8, "thrown", "()I"⟩
abbrev cX8_isIn : ByteArray := prog_10_method_3_code
def yX8_isIn : MethodName := ⟨RX8, "isIn", "(III)Z"⟩
abbrev cX8_isProblem : ByteArray := prog_10_method_4_code
def yX8_isProblem : MethodName := ⟨RX8, "isProblem", "(I)Z"⟩
abbrev cX8_isEntry : ByteArray := prog_10_method_5_code
def yX8_isEntry : MethodName := ⟨RX8, "isEntry", "(I)Z"⟩
abbrev cX8_isTeam : ByteArray := prog_10_method_6_code
def yX8_isTeam : MethodName := ⟨RX8, "isTeam", "(I)Z"⟩
abbrev cX8_isGroup : ByteArray := prog_10_method_7_code
def yX8_isGroup : MethodName := ⟨RX8, "isGroup", "(I)Z"⟩
abbrev cX8_needs : ByteArray := prog_10_method_8_code
def yX8_needs : MethodName := ⟨RX8, "needs", "(I)I"⟩
abbrev cX8_pushes : ByteArray := prog_10_method_9_code
def yX8_pushes : MethodName := ⟨RX8, "pushes", "(I)V"⟩
abbrev cX8_runs : ByteArray := prog_10_method_10_code
def yX8_runs : MethodName := ⟨RX8, "runs", "(III)V"⟩
abbrev cX8_makes : ByteArray := prog_10_method_11_code
def yX8_makes : MethodName := ⟨RX8, "makes", "(J)V"⟩
abbrev cX8_empties : ByteArray := prog_10_method_12_code
def yX8_empties : MethodName := ⟨RX8, "empties", "(I)V"⟩
abbrev cX8_copies : ByteArray := prog_10_method_13_code
def yX8_copies : MethodName := ⟨RX8, "copies", "(II)V"⟩
abbrev cX8_code : ByteArray := prog_10_method_14_code
def yX8_code : MethodName := ⟨RX8, "code", "(II)I"⟩
abbrev cX8_input : ByteArray := prog_10_method_15_code
def yX8_input : MethodName := ⟨RX8, "input", "(I)I"⟩
abbrev cX8_clear : ByteArray := prog_10_method_16_code
def yX8_clear : MethodName := ⟨RX8, "clear", "()I"⟩
abbrev cX8_run : ByteArray := prog_10_method_17_code
def yX8_run : MethodName := ⟨RX8, "run", "(II)I"⟩
abbrev cX8_answers : ByteArray := prog_10_method_18_code
def yX8_answers : MethodName := ⟨RX8, "answers", "(II)Z"⟩
abbrev cX8_isChecker : ByteArray := prog_10_method_19_code
def yX8_isChecker : MethodName := ⟨RX8, "isChecker", "(I)Z"⟩
abbrev cX8_problem : ByteArray := prog_10_method_20_code
def yX8_problem : MethodName := ⟨RX8, "problem", "(II)I"⟩
abbrev cX8_becomes : ByteArray := prog_10_method_21_code
def yX8_becomes : MethodName := ⟨RX8, "becomes", "(II)V"⟩
abbrev cX8_test : ByteArray := prog_10_method_22_code
def yX8_test : MethodName := ⟨RX8, "test", "(II)I"⟩
abbrev cX8_points : ByteArray := prog_10_method_23_code
def yX8_points : MethodName := ⟨RX8, "points", "(III)I"⟩
abbrev cX8_mend : ByteArray := prog_10_method_24_code
def yX8_mend : MethodName := ⟨RX8, "mend", "(II)I"⟩
abbrev cX8_answer : ByteArray := prog_10_method_25_code
def yX8_answer : MethodName := ⟨RX8, "answer", "(III)I"⟩
abbrev cX8_does : ByteArray := prog_10_method_26_code
def yX8_does : MethodName := ⟨RX8, "does", "(III)I"⟩
abbrev cX8_firstFailed : ByteArray := prog_10_method_27_code
def yX8_firstFailed : MethodName := ⟨RX8, "firstFailed", "(I)I"⟩
abbrev cX8_judges : ByteArray := prog_10_method_28_code
def yX8_judges : MethodName := ⟨RX8, "judges", "(I)V"⟩
abbrev cX8_enter : ByteArray := prog_10_method_29_code
def yX8_enter : MethodName := ⟨RX8, "enter", "(II)I"⟩
abbrev cX8_pass : ByteArray := prog_10_method_30_code
def yX8_pass : MethodName := ⟨RX8, "pass", "(I)I"⟩
abbrev cX8_judge : ByteArray := prog_10_method_31_code
def yX8_judge : MethodName := ⟨RX8, "judge", "()I"⟩
abbrev cX8_rejudge : ByteArray := prog_10_method_32_code
def yX8_rejudge : MethodName := ⟨RX8, "rejudge", "(I)I"⟩
abbrev cX8_entry : ByteArray := prog_10_method_33_code
def yX8_entry : MethodName := ⟨RX8, "entry", "(II)I"⟩
abbrev cX8_areAlike : ByteArray := prog_10_method_34_code
def yX8_areAlike : MethodName := ⟨RX8, "areAlike", "(II)Z"⟩
abbrev cX8_likeness : ByteArray := prog_10_method_35_code
def yX8_likeness : MethodName := ⟨RX8, "likeness", "(II)I"⟩
abbrev cX8_isLate : ByteArray := prog_10_method_36_code
def yX8_isLate : MethodName := ⟨RX8, "isLate", "(I)Z"⟩
abbrev cX8_counts : ByteArray := prog_10_method_37_code
def yX8_counts : MethodName := ⟨RX8, "counts", "(II)I"⟩
abbrev cX8_boards : ByteArray := prog_10_method_38_code
def yX8_boards : MethodName := ⟨RX8, "boards", "()V"⟩
abbrev cX8_tells : ByteArray := prog_10_method_39_code
def yX8_tells : MethodName := ⟨RX8, "tells", "(Z)V"⟩
abbrev cX8_isAhead : ByteArray := prog_10_method_40_code
def yX8_isAhead : MethodName := ⟨RX8, "isAhead", "(II)Z"⟩
abbrev cX8_placeOf : ByteArray := prog_10_method_41_code
def yX8_placeOf : MethodName := ⟨RX8, "placeOf", "(I)I"⟩
abbrev cX8_freeze : ByteArray := prog_10_method_42_code
def yX8_freeze : MethodName := ⟨RX8, "freeze", "(I)V"⟩
abbrev cX8_toReveal : ByteArray := prog_10_method_43_code
def yX8_toReveal : MethodName := ⟨RX8, "toReveal", "(I)I"⟩
abbrev cX8_reveal : ByteArray := prog_10_method_44_code
def yX8_reveal : MethodName := ⟨RX8, "reveal", "()I"⟩
abbrev cX8_board : ByteArray := prog_10_method_45_code
def yX8_board : MethodName := ⟨RX8, "board", "(IZI)I"⟩
abbrev cX8_placeAnew : ByteArray := prog_10_method_46_code
def yX8_placeAnew : MethodName := ⟨RX8, "placeAnew", "(I)I"⟩
abbrev cX8_hack : ByteArray := prog_10_method_47_code
def yX8_hack : MethodName := ⟨RX8, "hack", "(II)Z"⟩
def RJx145de : String := "java/io/Serializable"
def TJx145de : u_T := fun k => match k with
  | _ => ("", "", "", false)
def tyJx145de : Nat → FieldType := fun k => match k with
  | _ => .int
abbrev wsJx145de0 : List Cond := u_ws RJx145de TJx145de 0
theorem nmJx145de : ∀ a, a < 0 → ∀ b, b < 0 → a ≠ b → (TJx145de a).2.1 ≠ (TJx145de b).2.1 := by decide +kernel
theorem tyJx145de_ok : ∀ k, k < 0 → parseFieldDescriptor (TJx145de k).2.2.1 = some (tyJx145de k) := by decide +kernel
def RJx8e188 : String := "java/lang/Cloneable"
def TJx8e188 : u_T := fun k => match k with
  | _ => ("", "", "", false)
def tyJx8e188 : Nat → FieldType := fun k => match k with
  | _ => .int
abbrev wsJx8e1880 : List Cond := u_ws RJx8e188 TJx8e188 0
theorem nmJx8e188 : ∀ a, a < 0 → ∀ b, b < 0 → a ≠ b → (TJx8e188 a).2.1 ≠ (TJx8e188 b).2.1 := by decide +kernel
theorem tyJx8e188_ok : ∀ k, k < 0 → parseFieldDescriptor (TJx8e188 k).2.2.1 = some (tyJx8e188 k) := by decide +kernel
def RJxab1ab : String := "java/lang/Iterable"
def TJxab1ab : u_T := fun k => match k with
  | _ => ("", "", "", false)
def tyJxab1ab : Nat → FieldType := fun k => match k with
  | _ => .int
abbrev wsJxab1ab0 : List Cond := u_ws RJxab1ab TJxab1ab 0
theorem nmJxab1ab : ∀ a, a < 0 → ∀ b, b < 0 → a ≠ b → (TJxab1ab a).2.1 ≠ (TJxab1ab b).2.1 := by decide +kernel
theorem tyJxab1ab_ok : ∀ k, k < 0 → parseFieldDescriptor (TJxab1ab k).2.2.1 = some (tyJxab1ab k) := by decide +kernel
def RJ9 : String := "java/lang/Math"
def TJ9 : u_T := fun k => match k with
  | _ => ("", "", "", false)
def tyJ9 : Nat → FieldType := fun k => match k with
  | _ => .int
abbrev wsJ90 : List Cond := u_ws RJ9 TJ9 0
theorem nmJ9 : ∀ a, a < 0 → ∀ b, b < 0 → a ≠ b → (TJ9 a).2.1 ≠ (TJ9 b).2.1 := by decide +kernel
theorem tyJ9_ok : ∀ k, k < 0 → parseFieldDescriptor (TJ9 k).2.2.1 = some (tyJ9 k) := by decide +kernel
abbrev cJ9_abs_0f7a4 : ByteArray := prog_18_method_59_code
def yJ9_abs_0f7a4 : MethodName := ⟨RJ9, "abs", "(I)I"⟩
abbrev cJ9_max_7cf53 : ByteArray := prog_18_method_65_code
def yJ9_max_7cf53 : MethodName := ⟨RJ9, "max", "(II)I"⟩
abbrev cJ9_min_7cf53 : ByteArray := prog_18_method_69_code
def yJ9_min_7cf53 : MethodName := ⟨RJ9, "min", "(II)I"⟩
def RJ0 : String := "java/lang/String"
def TJ0 : u_T := fun k => match k with
  | _ => ("", "", "", false)
def tyJ0 : Nat → FieldType := fun k => match k with
  | _ => .int
abbrev wsJ00 : List Cond := u_ws RJ0 TJ0 0
theorem nmJ0 : ∀ a, a < 0 → ∀ b, b < 0 → a ≠ b → (TJ0 a).2.1 ≠ (TJ0 b).2.1 := by decide +kernel
theorem tyJ0_ok : ∀ k, k < 0 → parseFieldDescriptor (TJ0 k).2.2.1 = some (tyJ0 k) := by decide +kernel
def RJ10 : String := "java/lang/System"
def TJ10 : u_T := fun k => match k with
  | _ => ("", "", "", false)
def tyJ10 : Nat → FieldType := fun k => match k with
  | _ => .int
abbrev wsJ100 : List Cond := u_ws RJ10 TJ10 0
theorem nmJ10 : ∀ a, a < 0 → ∀ b, b < 0 → a ≠ b → (TJ10 a).2.1 ≠ (TJ10 b).2.1 := by decide +kernel
theorem tyJ10_ok : ∀ k, k < 0 → parseFieldDescriptor (TJ10 k).2.2.1 = some (tyJ10 k) := by decide +kernel
def RJxa1e45 : String := "java/util/AbstractCollection"
def TJxa1e45 : u_T := fun k => match k with
  | _ => ("", "", "", false)
def tyJxa1e45 : Nat → FieldType := fun k => match k with
  | _ => .int
abbrev wsJxa1e450 : List Cond := u_ws RJxa1e45 TJxa1e45 0
theorem nmJxa1e45 : ∀ a, a < 0 → ∀ b, b < 0 → a ≠ b → (TJxa1e45 a).2.1 ≠ (TJxa1e45 b).2.1 := by decide +kernel
theorem tyJxa1e45_ok : ∀ k, k < 0 → parseFieldDescriptor (TJxa1e45 k).2.2.1 = some (tyJxa1e45 k) := by decide +kernel
abbrev cJxa1e45_init_da8c8 : ByteArray := prog_23_method_1_code
def yJxa1e45_init_da8c8 : MethodName := ⟨RJxa1e45, "<init>", "()V"⟩
def RJxc12de : String := "java/util/AbstractList"
def TJxc12de : u_T := fun k => match k with
  | _ => ("", "", "", false)
def tyJxc12de : Nat → FieldType := fun k => match k with
  | _ => .int
abbrev wsJxc12de0 : List Cond := u_ws RJxc12de TJxc12de 0
theorem nmJxc12de : ∀ a, a < 0 → ∀ b, b < 0 → a ≠ b → (TJxc12de a).2.1 ≠ (TJxc12de b).2.1 := by decide +kernel
theorem tyJxc12de_ok : ∀ k, k < 0 → parseFieldDescriptor (TJxc12de k).2.2.1 = some (tyJxc12de k) := by decide +kernel
abbrev cJxc12de_init_da8c8 : ByteArray := prog_24_method_1_code
def yJxc12de_init_da8c8 : MethodName := ⟨RJxc12de, "<init>", "()V"⟩
def RJx4a65c : String := "java/util/ArrayList"
def TJx4a65c : u_T := fun k => match k with
  | 0 => ("java/util/AbstractList", "modCount", "I", false)
  | 1 => ("java/util/ArrayList", "elementData", "[Ljava/lang/Object;", false)
  | _ => ("java/util/ArrayList", "size", "I", false)
def tyJx4a65c : Nat → FieldType := fun k => match k with
  | 0 => .int
  | 1 => .array (.object "java/lang/Object")
  | _ => .int
abbrev wsJx4a65c0 : List Cond := u_ws RJx4a65c TJx4a65c 3
theorem nmJx4a65c : ∀ a, a < 3 → ∀ b, b < 3 → a ≠ b → (TJx4a65c a).2.1 ≠ (TJx4a65c b).2.1 := by decide +kernel
theorem tyJx4a65c_ok : ∀ k, k < 3 → parseFieldDescriptor (TJx4a65c k).2.2.1 = some (tyJx4a65c k) := by decide +kernel
abbrev cJx4a65c_init_da8c8 : ByteArray := prog_25_method_2_code
def yJx4a65c_init_da8c8 : MethodName := ⟨RJx4a65c, "<init>", "()V"⟩
abbrev cJx4a65c_grow_92f84 : ByteArray := prog_25_method_6_code
def yJx4a65c_grow_92f84 : MethodName := ⟨RJx4a65c, "grow", "(I)[Ljava/lang/Object;"⟩
abbrev cJx4a65c_grow_d5877 : ByteArray := prog_25_method_7_code
def yJx4a65c_grow_d5877 : MethodName := ⟨RJx4a65c, "grow", "()[Ljava/lang/Object;"⟩
abbrev cJx4a65c_size_8abf5 : ByteArray := prog_25_method_8_code
def yJx4a65c_size_8abf5 : MethodName := ⟨RJx4a65c, "size", "()I"⟩
abbrev cJx4a65c_elementData_915e3 : ByteArray := prog_25_method_18_code
def yJx4a65c_elementData_915e3 : MethodName := ⟨RJx4a65c, "elementData", "(I)Ljava/lang/Object;"⟩
abbrev cJx4a65c_get_915e3 : ByteArray := prog_25_method_20_code
def yJx4a65c_get_915e3 : MethodName := ⟨RJx4a65c, "get", "(I)Ljava/lang/Object;"⟩
abbrev cJx4a65c_add_72be8 : ByteArray := prog_25_method_24_code
def yJx4a65c_add_72be8 : MethodName := ⟨RJx4a65c, "add", "(Ljava/lang/Object;[Ljava/lang/Object;I)V"⟩
abbrev cJx4a65c_add_9ea2d : ByteArray := prog_25_method_25_code
def yJx4a65c_add_9ea2d : MethodName := ⟨RJx4a65c, "add", "(Ljava/lang/Object;)Z"⟩
def RJ7 : String := "java/util/Arrays"
def TJ7 : u_T := fun k => match k with
  | _ => ("", "", "", false)
def tyJ7 : Nat → FieldType := fun k => match k with
  | _ => .int
abbrev wsJ70 : List Cond := u_ws RJ7 TJ7 0
theorem nmJ7 : ∀ a, a < 0 → ∀ b, b < 0 → a ≠ b → (TJ7 a).2.1 ≠ (TJ7 b).2.1 := by decide +kernel
theorem tyJ7_ok : ∀ k, k < 0 → parseFieldDescriptor (TJ7 k).2.2.1 = some (tyJ7 k) := by decide +kernel
abbrev cJ7_fill_53178 : ByteArray := prog_26_method_103_code
def yJ7_fill_53178 : MethodName := ⟨RJ7, "fill", "([II)V"⟩
abbrev cJ7_copyOf_1904c : ByteArray := prog_26_method_119_code
def yJ7_copyOf_1904c : MethodName := ⟨RJ7, "copyOf", "([Ljava/lang/Object;I)[Ljava/lang/Object;"⟩
abbrev cJ7_copyOf_6403c : ByteArray := prog_26_method_120_code
def yJ7_copyOf_6403c : MethodName := ⟨RJ7, "copyOf", "([Ljava/lang/Object;ILjava/lang/Class;)[Ljava/lang/Object;"⟩
def RJx5ef63 : String := "java/util/Collection"
def TJx5ef63 : u_T := fun k => match k with
  | _ => ("", "", "", false)
def tyJx5ef63 : Nat → FieldType := fun k => match k with
  | _ => .int
abbrev wsJx5ef630 : List Cond := u_ws RJx5ef63 TJx5ef63 0
theorem nmJx5ef63 : ∀ a, a < 0 → ∀ b, b < 0 → a ≠ b → (TJx5ef63 a).2.1 ≠ (TJx5ef63 b).2.1 := by decide +kernel
theorem tyJx5ef63_ok : ∀ k, k < 0 → parseFieldDescriptor (TJx5ef63 k).2.2.1 = some (tyJx5ef63 k) := by decide +kernel
def RJxbd725 : String := "java/util/List"
def TJxbd725 : u_T := fun k => match k with
  | _ => ("", "", "", false)
def tyJxbd725 : Nat → FieldType := fun k => match k with
  | _ => .int
abbrev wsJxbd7250 : List Cond := u_ws RJxbd725 TJxbd725 0
theorem nmJxbd725 : ∀ a, a < 0 → ∀ b, b < 0 → a ≠ b → (TJxbd725 a).2.1 ≠ (TJxbd725 b).2.1 := by decide +kernel
theorem tyJxbd725_ok : ∀ k, k < 0 → parseFieldDescriptor (TJxbd725 k).2.2.1 = some (tyJxbd725 k) := by decide +kernel
def RJ15 : String := "java/util/Objects"
def TJ15 : u_T := fun k => match k with
  | _ => ("", "", "", false)
def tyJ15 : Nat → FieldType := fun k => match k with
  | _ => .int
abbrev wsJ150 : List Cond := u_ws RJ15 TJ15 0
theorem nmJ15 : ∀ a, a < 0 → ∀ b, b < 0 → a ≠ b → (TJ15 a).2.1 ≠ (TJ15 b).2.1 := by decide +kernel
theorem tyJ15_ok : ∀ k, k < 0 → parseFieldDescriptor (TJ15 k).2.2.1 = some (tyJ15 k) := by decide +kernel
abbrev cJ15_checkIndex_7cf53 : ByteArray := prog_29_method_17_code
def yJ15_checkIndex_7cf53 : MethodName := ⟨RJ15, "checkIndex", "(II)I"⟩
def RJxf0a74 : String := "java/util/RandomAccess"
def TJxf0a74 : u_T := fun k => match k with
  | _ => ("", "", "", false)
def tyJxf0a74 : Nat → FieldType := fun k => match k with
  | _ => .int
abbrev wsJxf0a740 : List Cond := u_ws RJxf0a74 TJxf0a74 0
theorem nmJxf0a74 : ∀ a, a < 0 → ∀ b, b < 0 → a ≠ b → (TJxf0a74 a).2.1 ≠ (TJxf0a74 b).2.1 := by decide +kernel
theorem tyJxf0a74_ok : ∀ k, k < 0 → parseFieldDescriptor (TJxf0a74 k).2.2.1 = some (tyJxf0a74 k) := by decide +kernel
def RJxa66e6 : String := "java/util/SequencedCollection"
def TJxa66e6 : u_T := fun k => match k with
  | _ => ("", "", "", false)
def tyJxa66e6 : Nat → FieldType := fun k => match k with
  | _ => .int
abbrev wsJxa66e60 : List Cond := u_ws RJxa66e6 TJxa66e6 0
theorem nmJxa66e6 : ∀ a, a < 0 → ∀ b, b < 0 → a ≠ b → (TJxa66e6 a).2.1 ≠ (TJxa66e6 b).2.1 := by decide +kernel
theorem tyJxa66e6_ok : ∀ k, k < 0 → parseFieldDescriptor (TJxa66e6 k).2.2.1 = some (tyJxa66e6 k) := by decide +kernel
def RJ8 : String := "jdk/internal/util/ArraysSupport"
def TJ8 : u_T := fun k => match k with
  | _ => ("", "", "", false)
def tyJ8 : Nat → FieldType := fun k => match k with
  | _ => .int
abbrev wsJ80 : List Cond := u_ws RJ8 TJ8 0
theorem nmJ8 : ∀ a, a < 0 → ∀ b, b < 0 → a ≠ b → (TJ8 a).2.1 ≠ (TJ8 b).2.1 := by decide +kernel
theorem tyJ8_ok : ∀ k, k < 0 → parseFieldDescriptor (TJ8 k).2.2.1 = some (tyJ8 k) := by decide +kernel
abbrev cJ8_newLength_cabcc : ByteArray := prog_32_method_27_code
def yJ8_newLength_cabcc : MethodName := ⟨RJ8, "newLength", "(III)I"⟩
abbrev cJ8_hugeLength_7cf53 : ByteArray := prog_32_method_28_code
def yJ8_hugeLength_7cf53 : MethodName := ⟨RJ8, "hugeLength", "(II)I"⟩
def RJ3 : String := "jdk/internal/util/Preconditions"
def TJ3 : u_T := fun k => match k with
  | _ => ("", "", "", false)
def tyJ3 : Nat → FieldType := fun k => match k with
  | _ => .int
abbrev wsJ30 : List Cond := u_ws RJ3 TJ3 0
theorem nmJ3 : ∀ a, a < 0 → ∀ b, b < 0 → a ≠ b → (TJ3 a).2.1 ≠ (TJ3 b).2.1 := by decide +kernel
theorem tyJ3_ok : ∀ k, k < 0 → parseFieldDescriptor (TJ3 k).2.2.1 = some (tyJ3 k) := by decide +kernel
abbrev cJ3_checkIndex_8e157 : ByteArray := prog_33_method_11_code
def yJ3_checkIndex_8e157 : MethodName := ⟨RJ3, "checkIndex", "(IILjava/util/function/BiFunction;)I"⟩
def RL : String := "RejudgeHallLaw"
abbrev cL_code : ByteArray := method_3_code
def yL_code : MethodName := ⟨RL, "code", "(LRejudgeHall;II[J)I"⟩
abbrev cL_input : ByteArray := method_4_code
def yL_input : MethodName := ⟨RL, "input", "(LRejudgeHall;I[J)I"⟩
abbrev cL_run : ByteArray := method_5_code
def yL_run : MethodName := ⟨RL, "run", "(LRejudgeHall;II[J)I"⟩
abbrev cL_problem : ByteArray := method_6_code
def yL_problem : MethodName := ⟨RL, "problem", "(LRejudgeHall;II[J)I"⟩
abbrev cL_test : ByteArray := method_7_code
def yL_test : MethodName := ⟨RL, "test", "(LRejudgeHall;II[J)I"⟩
abbrev cL_points : ByteArray := method_8_code
def yL_points : MethodName := ⟨RL, "points", "(LRejudgeHall;III[J)I"⟩
abbrev cL_mend : ByteArray := method_9_code
def yL_mend : MethodName := ⟨RL, "mend", "(LRejudgeHall;II[J)I"⟩
abbrev cL_answer : ByteArray := method_10_code
def yL_answer : MethodName := ⟨RL, "answer", "(LRejudgeHall;III[J)I"⟩
abbrev cL_enter : ByteArray := method_11_code
def yL_enter : MethodName := ⟨RL, "enter", "(LRejudgeHall;II[J)I"⟩
abbrev cL_pass : ByteArray := method_12_code
def yL_pass : MethodName := ⟨RL, "pass", "(LRejudgeHall;I[J)I"⟩
abbrev cL_rejudge : ByteArray := method_13_code
def yL_rejudge : MethodName := ⟨RL, "rejudge", "(LRejudgeHall;I[J)I"⟩
abbrev cL_entry : ByteArray := method_14_code
def yL_entry : MethodName := ⟨RL, "entry", "(LRejudgeHall;II[J)I"⟩
abbrev cL_likeness : ByteArray := method_15_code
def yL_likeness : MethodName := ⟨RL, "likeness", "(LRejudgeHall;II[J)I"⟩
abbrev cL_freeze : ByteArray := method_16_code
def yL_freeze : MethodName := ⟨RL, "freeze", "(LRejudgeHall;I)I"⟩
abbrev cL_board : ByteArray := method_17_code
def yL_board : MethodName := ⟨RL, "board", "(LRejudgeHall;IZI[J)I"⟩
abbrev cL_placeAnew : ByteArray := method_18_code
def yL_placeAnew : MethodName := ⟨RL, "placeAnew", "(LRejudgeHall;I[J)I"⟩
abbrev cL_hack : ByteArray := method_19_code
def yL_hack : MethodName := ⟨RL, "hack", "(LRejudgeHall;II[J)I"⟩
abbrev cL_law : ByteArray := code
def yL_law : MethodName := ⟨RL, "law", "([I)Z"⟩
abbrev vwCl : List vw_C := [(RJx4a65c, TJx4a65c, 3), (RX0, TX0, 8), (RX1, TX1, 5), (RX2, TX2, 7), (RX3, TX3, 3), (RX4, TX4, 2), (RX5, TX5, 5), (RX6, TX6, 3), (RX7, TX7, 12), (RX8, TX8, 39)]
