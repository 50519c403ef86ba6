-- ===== PART A: goes FIRST, ahead of the names: the tables' words, and 'selects' of the private methods out of them =====
/-- a private method of a class that the tables say can be made, by its rows of tables_1 -/
def lw_okq (q : MethodName × Nat) : Prop := (q.1.cls ≠ "java/lang/invoke/MethodHandle" ∧ q.1.cls ≠ "java/lang/invoke/VarHandle") ∧ Cond.instantiable q.1.cls q.2 ∈ tables_1 ∧ Cond.privateMethod q.1 ∈ tables_1 ∧ Cond.instanceMethod q.1 ∈ tables_1
theorem lw_p0 : lw_okq (⟨"SmellHowLong", "refuse", "(I)I"⟩, 9) := ⟨⟨by decide +kernel, by decide +kernel⟩, List.mem_of_getElem? (i := 15) (by decide +kernel), List.mem_of_getElem? (i := 134) (by decide +kernel), List.mem_of_getElem? (i := 135) (by decide +kernel)⟩
theorem lw_p1 : lw_okq (⟨"SmellHowLong", "toldTown", "()I"⟩, 9) := ⟨⟨by decide +kernel, by decide +kernel⟩, List.mem_of_getElem? (i := 15) (by decide +kernel), List.mem_of_getElem? (i := 151) (by decide +kernel), List.mem_of_getElem? (i := 152) (by decide +kernel)⟩
theorem lw_p2 : lw_okq (⟨"SmellHowLong$Telling", "letterAt", "(I)I"⟩, 2) := ⟨⟨by decide +kernel, by decide +kernel⟩, List.mem_of_getElem? (i := 69) (by decide +kernel), List.mem_of_getElem? (i := 159) (by decide +kernel), List.mem_of_getElem? (i := 160) (by decide +kernel)⟩
theorem lw_p3 : lw_okq (⟨"SmellHowLong$Telling", "kindAt", "(I)I"⟩, 2) := ⟨⟨by decide +kernel, by decide +kernel⟩, List.mem_of_getElem? (i := 69) (by decide +kernel), List.mem_of_getElem? (i := 166) (by decide +kernel), List.mem_of_getElem? (i := 167) (by decide +kernel)⟩
theorem lw_p4 : lw_okq (⟨"SmellHowLong$Telling", "digitsFrom", "(II)I"⟩, 2) := ⟨⟨by decide +kernel, by decide +kernel⟩, List.mem_of_getElem? (i := 69) (by decide +kernel), List.mem_of_getElem? (i := 260) (by decide +kernel), List.mem_of_getElem? (i := 261) (by decide +kernel)⟩
theorem lw_p5 : lw_okq (⟨"SmellHowLong$Telling", "isDigit", "(I)Z"⟩, 2) := ⟨⟨by decide +kernel, by decide +kernel⟩, List.mem_of_getElem? (i := 69) (by decide +kernel), List.mem_of_getElem? (i := 264) (by decide +kernel), List.mem_of_getElem? (i := 265) (by decide +kernel)⟩
theorem lw_p6 : lw_okq (⟨"SmellHowLong$Telling", "tellStatement", "(LSmellHowLong$Town;II)Z"⟩, 2) := ⟨⟨by decide +kernel, by decide +kernel⟩, List.mem_of_getElem? (i := 69) (by decide +kernel), List.mem_of_getElem? (i := 279) (by decide +kernel), List.mem_of_getElem? (i := 280) (by decide +kernel)⟩
theorem lw_p7 : lw_okq (⟨"SmellHowLong$Telling", "tellPath", "(LSmellHowLong$Town;I)Z"⟩, 2) := ⟨⟨by decide +kernel, by decide +kernel⟩, List.mem_of_getElem? (i := 69) (by decide +kernel), List.mem_of_getElem? (i := 283) (by decide +kernel), List.mem_of_getElem? (i := 284) (by decide +kernel)⟩
theorem lw_p8 : lw_okq (⟨"SmellHowLong$Telling", "digitAt", "(I)I"⟩, 2) := ⟨⟨by decide +kernel, by decide +kernel⟩, List.mem_of_getElem? (i := 69) (by decide +kernel), List.mem_of_getElem? (i := 287) (by decide +kernel), List.mem_of_getElem? (i := 288) (by decide +kernel)⟩
theorem lw_p9 : lw_okq (⟨"SmellHowLong$Telling", "tellWind", "(LSmellHowLong$Town;I)Z"⟩, 2) := ⟨⟨by decide +kernel, by decide +kernel⟩, List.mem_of_getElem? (i := 69) (by decide +kernel), List.mem_of_getElem? (i := 298) (by decide +kernel), List.mem_of_getElem? (i := 299) (by decide +kernel)⟩
theorem lw_p10 : lw_okq (⟨"SmellHowLong$Telling", "tellRoof", "(LSmellHowLong$Town;I)Z"⟩, 2) := ⟨⟨by decide +kernel, by decide +kernel⟩, List.mem_of_getElem? (i := 69) (by decide +kernel), List.mem_of_getElem? (i := 306) (by decide +kernel), List.mem_of_getElem? (i := 307) (by decide +kernel)⟩
theorem lw_p11 : lw_okq (⟨"SmellHowLong$Telling", "tellNose", "(LSmellHowLong$Town;I)Z"⟩, 2) := ⟨⟨by decide +kernel, by decide +kernel⟩, List.mem_of_getElem? (i := 69) (by decide +kernel), List.mem_of_getElem? (i := 314) (by decide +kernel), List.mem_of_getElem? (i := 315) (by decide +kernel)⟩
theorem lw_p12 : lw_okq (⟨"SmellHowLong$Telling", "tellWalker", "(LSmellHowLong$Town;II)Z"⟩, 2) := ⟨⟨by decide +kernel, by decide +kernel⟩, List.mem_of_getElem? (i := 69) (by decide +kernel), List.mem_of_getElem? (i := 322) (by decide +kernel), List.mem_of_getElem? (i := 323) (by decide +kernel)⟩
theorem lw_p13 : lw_okq (⟨"SmellHowLong$Town", "leaveTrace", "(I)V"⟩, 12) := ⟨⟨by decide +kernel, by decide +kernel⟩, List.mem_of_getElem? (i := 23) (by decide +kernel), List.mem_of_getElem? (i := 334) (by decide +kernel), List.mem_of_getElem? (i := 335) (by decide +kernel)⟩
theorem lw_p14 : lw_okq (⟨"SmellHowLong$Town", "smeltGoal", "(IZ)I"⟩, 12) := ⟨⟨by decide +kernel, by decide +kernel⟩, List.mem_of_getElem? (i := 23) (by decide +kernel), List.mem_of_getElem? (i := 388) (by decide +kernel), List.mem_of_getElem? (i := 389) (by decide +kernel)⟩
theorem lw_p15 : lw_okq (⟨"SmellHowLong$Town", "ageAmong", "(IIZ)I"⟩, 12) := ⟨⟨by decide +kernel, by decide +kernel⟩, List.mem_of_getElem? (i := 23) (by decide +kernel), List.mem_of_getElem? (i := 392) (by decide +kernel), List.mem_of_getElem? (i := 393) (by decide +kernel)⟩
def lw_privs_1 : List (MethodName × Nat) := [(⟨"SmellHowLong", "refuse", "(I)I"⟩, 9), (⟨"SmellHowLong", "toldTown", "()I"⟩, 9), (⟨"SmellHowLong$Telling", "letterAt", "(I)I"⟩, 2), (⟨"SmellHowLong$Telling", "kindAt", "(I)I"⟩, 2), (⟨"SmellHowLong$Telling", "digitsFrom", "(II)I"⟩, 2), (⟨"SmellHowLong$Telling", "isDigit", "(I)Z"⟩, 2), (⟨"SmellHowLong$Telling", "tellStatement", "(LSmellHowLong$Town;II)Z"⟩, 2), (⟨"SmellHowLong$Telling", "tellPath", "(LSmellHowLong$Town;I)Z"⟩, 2), (⟨"SmellHowLong$Telling", "digitAt", "(I)I"⟩, 2), (⟨"SmellHowLong$Telling", "tellWind", "(LSmellHowLong$Town;I)Z"⟩, 2), (⟨"SmellHowLong$Telling", "tellRoof", "(LSmellHowLong$Town;I)Z"⟩, 2), (⟨"SmellHowLong$Telling", "tellNose", "(LSmellHowLong$Town;I)Z"⟩, 2), (⟨"SmellHowLong$Telling", "tellWalker", "(LSmellHowLong$Town;II)Z"⟩, 2), (⟨"SmellHowLong$Town", "leaveTrace", "(I)V"⟩, 12), (⟨"SmellHowLong$Town", "smeltGoal", "(IZ)I"⟩, 12), (⟨"SmellHowLong$Town", "ageAmong", "(IIZ)I"⟩, 12)]
theorem lw_r1 : ∀ q ∈ lw_privs_1, lw_okq q := List.forall_mem_cons.mpr ⟨lw_p0, List.forall_mem_cons.mpr ⟨lw_p1, List.forall_mem_cons.mpr ⟨lw_p2, List.forall_mem_cons.mpr ⟨lw_p3, List.forall_mem_cons.mpr ⟨lw_p4, List.forall_mem_cons.mpr ⟨lw_p5, List.forall_mem_cons.mpr ⟨lw_p6, List.forall_mem_cons.mpr ⟨lw_p7, List.forall_mem_cons.mpr ⟨lw_p8, List.forall_mem_cons.mpr ⟨lw_p9, List.forall_mem_cons.mpr ⟨lw_p10, List.forall_mem_cons.mpr ⟨lw_p11, List.forall_mem_cons.mpr ⟨lw_p12, List.forall_mem_cons.mpr ⟨lw_p13, List.forall_mem_cons.mpr ⟨lw_p14, List.forall_mem_cons.mpr ⟨lw_p15, fun _ h => absurd h List.not_mem_nil⟩⟩⟩⟩⟩⟩⟩⟩⟩⟩⟩⟩⟩⟩⟩⟩
theorem lw_p16 : lw_okq (⟨"SmellHowLong$Town", "plannedGoal", "(I)I"⟩, 12) := ⟨⟨by decide +kernel, by decide +kernel⟩, List.mem_of_getElem? (i := 23) (by decide +kernel), List.mem_of_getElem? (i := 407) (by decide +kernel), List.mem_of_getElem? (i := 408) (by decide +kernel)⟩
theorem lw_p17 : lw_okq (⟨"SmellHowLong$Town", "arrive", "(II)V"⟩, 12) := ⟨⟨by decide +kernel, by decide +kernel⟩, List.mem_of_getElem? (i := 23) (by decide +kernel), List.mem_of_getElem? (i := 450) (by decide +kernel), List.mem_of_getElem? (i := 451) (by decide +kernel)⟩
theorem lw_p18 : lw_okq (⟨"SmellHowLong$Town", "hasTrace", "(II)Z"⟩, 12) := ⟨⟨by decide +kernel, by decide +kernel⟩, List.mem_of_getElem? (i := 23) (by decide +kernel), List.mem_of_getElem? (i := 467) (by decide +kernel), List.mem_of_getElem? (i := 468) (by decide +kernel)⟩
theorem lw_p19 : lw_okq (⟨"SmellHowLong$Town", "forgetTraces", "(I)V"⟩, 12) := ⟨⟨by decide +kernel, by decide +kernel⟩, List.mem_of_getElem? (i := 23) (by decide +kernel), List.mem_of_getElem? (i := 471) (by decide +kernel), List.mem_of_getElem? (i := 472) (by decide +kernel)⟩
theorem lw_p20 : lw_okq (⟨"SmellHowLong$Town", "smellsAsOneBefore", "(II)Z"⟩, 12) := ⟨⟨by decide +kernel, by decide +kernel⟩, List.mem_of_getElem? (i := 23) (by decide +kernel), List.mem_of_getElem? (i := 497) (by decide +kernel), List.mem_of_getElem? (i := 498) (by decide +kernel)⟩
theorem lw_p21 : lw_okq (⟨"SmellHowLong$Town", "smellOf", "(III)I"⟩, 12) := ⟨⟨by decide +kernel, by decide +kernel⟩, List.mem_of_getElem? (i := 23) (by decide +kernel), List.mem_of_getElem? (i := 501) (by decide +kernel), List.mem_of_getElem? (i := 502) (by decide +kernel)⟩
theorem lw_p22 : lw_okq (⟨"SmellHowLong", "think", "(I)V"⟩, 9) := ⟨⟨by decide +kernel, by decide +kernel⟩, List.mem_of_getElem? (i := 15) (by decide +kernel), List.mem_of_getElem? (i := 509) (by decide +kernel), List.mem_of_getElem? (i := 510) (by decide +kernel)⟩
theorem lw_p23 : lw_okq (⟨"SmellHowLong", "walksRefusal", "(II)I"⟩, 9) := ⟨⟨by decide +kernel, by decide +kernel⟩, List.mem_of_getElem? (i := 15) (by decide +kernel), List.mem_of_getElem? (i := 533) (by decide +kernel), List.mem_of_getElem? (i := 534) (by decide +kernel)⟩
theorem lw_p24 : lw_okq (⟨"SmellHowLong$Walks", "openRooms", "([II)I"⟩, 4) := ⟨⟨by decide +kernel, by decide +kernel⟩, List.mem_of_getElem? (i := 82) (by decide +kernel), List.mem_of_getElem? (i := 541) (by decide +kernel), List.mem_of_getElem? (i := 542) (by decide +kernel)⟩
theorem lw_p25 : lw_okq (⟨"SmellHowLong$Walks", "openWays", "(III)I"⟩, 4) := ⟨⟨by decide +kernel, by decide +kernel⟩, List.mem_of_getElem? (i := 82) (by decide +kernel), List.mem_of_getElem? (i := 551) (by decide +kernel), List.mem_of_getElem? (i := 552) (by decide +kernel)⟩
theorem lw_p26 : lw_okq (⟨"SmellHowLong$Walks", "waysThrough", "(II)I"⟩, 4) := ⟨⟨by decide +kernel, by decide +kernel⟩, List.mem_of_getElem? (i := 82) (by decide +kernel), List.mem_of_getElem? (i := 571) (by decide +kernel), List.mem_of_getElem? (i := 572) (by decide +kernel)⟩
theorem lw_p27 : lw_okq (⟨"SmellHowLong", "soonest", "(IIZ)I"⟩, 9) := ⟨⟨by decide +kernel, by decide +kernel⟩, List.mem_of_getElem? (i := 15) (by decide +kernel), List.mem_of_getElem? (i := 587) (by decide +kernel), List.mem_of_getElem? (i := 588) (by decide +kernel)⟩
theorem lw_p28 : lw_okq (⟨"SmellHowLong", "firstWrong", "()I"⟩, 9) := ⟨⟨by decide +kernel, by decide +kernel⟩, List.mem_of_getElem? (i := 15) (by decide +kernel), List.mem_of_getElem? (i := 624) (by decide +kernel), List.mem_of_getElem? (i := 625) (by decide +kernel)⟩
theorem lw_p29 : lw_okq (⟨"SmellHowLongModel", "no", "(I)I"⟩, 30) := ⟨⟨by decide +kernel, by decide +kernel⟩, List.mem_of_getElem? (i := 672) (by decide +kernel), List.mem_of_getElem? (i := 777) (by decide +kernel), List.mem_of_getElem? (i := 778) (by decide +kernel)⟩
theorem lw_p30 : lw_okq (⟨"SmellHowLongModel", "statement", "()Z"⟩, 30) := ⟨⟨by decide +kernel, by decide +kernel⟩, List.mem_of_getElem? (i := 672) (by decide +kernel), List.mem_of_getElem? (i := 785) (by decide +kernel), List.mem_of_getElem? (i := 786) (by decide +kernel)⟩
theorem lw_p31 : lw_okq (⟨"SmellHowLongModel", "next", "()I"⟩, 30) := ⟨⟨by decide +kernel, by decide +kernel⟩, List.mem_of_getElem? (i := 672) (by decide +kernel), List.mem_of_getElem? (i := 789) (by decide +kernel), List.mem_of_getElem? (i := 790) (by decide +kernel)⟩
def lw_privs_2 : List (MethodName × Nat) := [(⟨"SmellHowLong$Town", "plannedGoal", "(I)I"⟩, 12), (⟨"SmellHowLong$Town", "arrive", "(II)V"⟩, 12), (⟨"SmellHowLong$Town", "hasTrace", "(II)Z"⟩, 12), (⟨"SmellHowLong$Town", "forgetTraces", "(I)V"⟩, 12), (⟨"SmellHowLong$Town", "smellsAsOneBefore", "(II)Z"⟩, 12), (⟨"SmellHowLong$Town", "smellOf", "(III)I"⟩, 12), (⟨"SmellHowLong", "think", "(I)V"⟩, 9), (⟨"SmellHowLong", "walksRefusal", "(II)I"⟩, 9), (⟨"SmellHowLong$Walks", "openRooms", "([II)I"⟩, 4), (⟨"SmellHowLong$Walks", "openWays", "(III)I"⟩, 4), (⟨"SmellHowLong$Walks", "waysThrough", "(II)I"⟩, 4), (⟨"SmellHowLong", "soonest", "(IIZ)I"⟩, 9), (⟨"SmellHowLong", "firstWrong", "()I"⟩, 9), (⟨"SmellHowLongModel", "no", "(I)I"⟩, 30), (⟨"SmellHowLongModel", "statement", "()Z"⟩, 30), (⟨"SmellHowLongModel", "next", "()I"⟩, 30)]
theorem lw_r2 : ∀ q ∈ lw_privs_2, lw_okq q := List.forall_mem_cons.mpr ⟨lw_p16, List.forall_mem_cons.mpr ⟨lw_p17, List.forall_mem_cons.mpr ⟨lw_p18, List.forall_mem_cons.mpr ⟨lw_p19, List.forall_mem_cons.mpr ⟨lw_p20, List.forall_mem_cons.mpr ⟨lw_p21, List.forall_mem_cons.mpr ⟨lw_p22, List.forall_mem_cons.mpr ⟨lw_p23, List.forall_mem_cons.mpr ⟨lw_p24, List.forall_mem_cons.mpr ⟨lw_p25, List.forall_mem_cons.mpr ⟨lw_p26, List.forall_mem_cons.mpr ⟨lw_p27, List.forall_mem_cons.mpr ⟨lw_p28, List.forall_mem_cons.mpr ⟨lw_p29, List.forall_mem_cons.mpr ⟨lw_p30, List.forall_mem_cons.mpr ⟨lw_p31, fun _ h => absurd h List.not_mem_nil⟩⟩⟩⟩⟩⟩⟩⟩⟩⟩⟩⟩⟩⟩⟩⟩
theorem lw_p32 : lw_okq (⟨"SmellHowLongModel", "readsWalker", "(I)Z"⟩, 30) := ⟨⟨by decide +kernel, by decide +kernel⟩, List.mem_of_getElem? (i := 672) (by decide +kernel), List.mem_of_getElem? (i := 793) (by decide +kernel), List.mem_of_getElem? (i := 794) (by decide +kernel)⟩
theorem lw_p33 : lw_okq (⟨"SmellHowLongModel", "readsDigit", "(I)Z"⟩, 30) := ⟨⟨by decide +kernel, by decide +kernel⟩, List.mem_of_getElem? (i := 672) (by decide +kernel), List.mem_of_getElem? (i := 800) (by decide +kernel), List.mem_of_getElem? (i := 801) (by decide +kernel)⟩
theorem lw_p34 : lw_okq (⟨"SmellHowLongModel", "isDigit", "()Z"⟩, 30) := ⟨⟨by decide +kernel, by decide +kernel⟩, List.mem_of_getElem? (i := 672) (by decide +kernel), List.mem_of_getElem? (i := 804) (by decide +kernel), List.mem_of_getElem? (i := 805) (by decide +kernel)⟩
theorem lw_p35 : lw_okq (⟨"SmellHowLongModel", "passesAll", "(IZ)V"⟩, 30) := ⟨⟨by decide +kernel, by decide +kernel⟩, List.mem_of_getElem? (i := 672) (by decide +kernel), List.mem_of_getElem? (i := 811) (by decide +kernel), List.mem_of_getElem? (i := 812) (by decide +kernel)⟩
theorem lw_p36 : lw_okq (⟨"SmellHowLongModel", "passes", "([I)V"⟩, 30) := ⟨⟨by decide +kernel, by decide +kernel⟩, List.mem_of_getElem? (i := 672) (by decide +kernel), List.mem_of_getElem? (i := 815) (by decide +kernel), List.mem_of_getElem? (i := 816) (by decide +kernel)⟩
theorem lw_p37 : lw_okq (⟨"SmellHowLongModel", "passOne", "(I)I"⟩, 30) := ⟨⟨by decide +kernel, by decide +kernel⟩, List.mem_of_getElem? (i := 672) (by decide +kernel), List.mem_of_getElem? (i := 819) (by decide +kernel), List.mem_of_getElem? (i := 820) (by decide +kernel)⟩
theorem lw_p38 : lw_okq (⟨"SmellHowLongModel", "comes", "(I)Z"⟩, 30) := ⟨⟨by decide +kernel, by decide +kernel⟩, List.mem_of_getElem? (i := 672) (by decide +kernel), List.mem_of_getElem? (i := 823) (by decide +kernel), List.mem_of_getElem? (i := 824) (by decide +kernel)⟩
theorem lw_p39 : lw_okq (⟨"SmellHowLongModel", "comesWalker", "(I)Z"⟩, 30) := ⟨⟨by decide +kernel, by decide +kernel⟩, List.mem_of_getElem? (i := 672) (by decide +kernel), List.mem_of_getElem? (i := 830) (by decide +kernel), List.mem_of_getElem? (i := 831) (by decide +kernel)⟩
theorem lw_p40 : lw_okq (⟨"SmellHowLongModel", "isWalker", "(I)Z"⟩, 30) := ⟨⟨by decide +kernel, by decide +kernel⟩, List.mem_of_getElem? (i := 672) (by decide +kernel), List.mem_of_getElem? (i := 850) (by decide +kernel), List.mem_of_getElem? (i := 851) (by decide +kernel)⟩
theorem lw_p41 : lw_okq (⟨"SmellHowLongModel", "wouldGo", "(I)I"⟩, 30) := ⟨⟨by decide +kernel, by decide +kernel⟩, List.mem_of_getElem? (i := 672) (by decide +kernel), List.mem_of_getElem? (i := 854) (by decide +kernel), List.mem_of_getElem? (i := 855) (by decide +kernel)⟩
theorem lw_p42 : lw_okq (⟨"SmellHowLongModel", "followed", "(I)I"⟩, 30) := ⟨⟨by decide +kernel, by decide +kernel⟩, List.mem_of_getElem? (i := 672) (by decide +kernel), List.mem_of_getElem? (i := 858) (by decide +kernel), List.mem_of_getElem? (i := 859) (by decide +kernel)⟩
theorem lw_p43 : lw_okq (⟨"SmellHowLongModel", "endAge", "(IIZ)I"⟩, 30) := ⟨⟨by decide +kernel, by decide +kernel⟩, List.mem_of_getElem? (i := 672) (by decide +kernel), List.mem_of_getElem? (i := 862) (by decide +kernel), List.mem_of_getElem? (i := 863) (by decide +kernel)⟩
theorem lw_p44 : lw_okq (⟨"SmellHowLongModel", "isTrace", "(II)Z"⟩, 30) := ⟨⟨by decide +kernel, by decide +kernel⟩, List.mem_of_getElem? (i := 672) (by decide +kernel), List.mem_of_getElem? (i := 866) (by decide +kernel), List.mem_of_getElem? (i := 867) (by decide +kernel)⟩
theorem lw_p45 : lw_okq (⟨"SmellHowLongModel", "ageOf", "(II)I"⟩, 30) := ⟨⟨by decide +kernel, by decide +kernel⟩, List.mem_of_getElem? (i := 672) (by decide +kernel), List.mem_of_getElem? (i := 870) (by decide +kernel), List.mem_of_getElem? (i := 871) (by decide +kernel)⟩
theorem lw_p46 : lw_okq (⟨"SmellHowLongModel", "isPath", "(II)Z"⟩, 30) := ⟨⟨by decide +kernel, by decide +kernel⟩, List.mem_of_getElem? (i := 672) (by decide +kernel), List.mem_of_getElem? (i := 874) (by decide +kernel), List.mem_of_getElem? (i := 875) (by decide +kernel)⟩
theorem lw_p47 : lw_okq (⟨"SmellHowLongModel", "goesMinute", "()V"⟩, 30) := ⟨⟨by decide +kernel, by decide +kernel⟩, List.mem_of_getElem? (i := 672) (by decide +kernel), List.mem_of_getElem? (i := 894) (by decide +kernel), List.mem_of_getElem? (i := 895) (by decide +kernel)⟩
def lw_privs_3 : List (MethodName × Nat) := [(⟨"SmellHowLongModel", "readsWalker", "(I)Z"⟩, 30), (⟨"SmellHowLongModel", "readsDigit", "(I)Z"⟩, 30), (⟨"SmellHowLongModel", "isDigit", "()Z"⟩, 30), (⟨"SmellHowLongModel", "passesAll", "(IZ)V"⟩, 30), (⟨"SmellHowLongModel", "passes", "([I)V"⟩, 30), (⟨"SmellHowLongModel", "passOne", "(I)I"⟩, 30), (⟨"SmellHowLongModel", "comes", "(I)Z"⟩, 30), (⟨"SmellHowLongModel", "comesWalker", "(I)Z"⟩, 30), (⟨"SmellHowLongModel", "isWalker", "(I)Z"⟩, 30), (⟨"SmellHowLongModel", "wouldGo", "(I)I"⟩, 30), (⟨"SmellHowLongModel", "followed", "(I)I"⟩, 30), (⟨"SmellHowLongModel", "endAge", "(IIZ)I"⟩, 30), (⟨"SmellHowLongModel", "isTrace", "(II)Z"⟩, 30), (⟨"SmellHowLongModel", "ageOf", "(II)I"⟩, 30), (⟨"SmellHowLongModel", "isPath", "(II)Z"⟩, 30), (⟨"SmellHowLongModel", "goesMinute", "()V"⟩, 30)]
theorem lw_r3 : ∀ q ∈ lw_privs_3, lw_okq q := List.forall_mem_cons.mpr ⟨lw_p32, List.forall_mem_cons.mpr ⟨lw_p33, List.forall_mem_cons.mpr ⟨lw_p34, List.forall_mem_cons.mpr ⟨lw_p35, List.forall_mem_cons.mpr ⟨lw_p36, List.forall_mem_cons.mpr ⟨lw_p37, List.forall_mem_cons.mpr ⟨lw_p38, List.forall_mem_cons.mpr ⟨lw_p39, List.forall_mem_cons.mpr ⟨lw_p40, List.forall_mem_cons.mpr ⟨lw_p41, List.forall_mem_cons.mpr ⟨lw_p42, List.forall_mem_cons.mpr ⟨lw_p43, List.forall_mem_cons.mpr ⟨lw_p44, List.forall_mem_cons.mpr ⟨lw_p45, List.forall_mem_cons.mpr ⟨lw_p46, List.forall_mem_cons.mpr ⟨lw_p47, fun _ h => absurd h List.not_mem_nil⟩⟩⟩⟩⟩⟩⟩⟩⟩⟩⟩⟩⟩⟩⟩⟩
theorem lw_p48 : lw_okq (⟨"SmellHowLongModel", "tracesIn", "(I)I"⟩, 30) := ⟨⟨by decide +kernel, by decide +kernel⟩, List.mem_of_getElem? (i := 672) (by decide +kernel), List.mem_of_getElem? (i := 910) (by decide +kernel), List.mem_of_getElem? (i := 911) (by decide +kernel)⟩
theorem lw_p49 : lw_okq (⟨"SmellHowLongModel", "toldApart", "(I)I"⟩, 30) := ⟨⟨by decide +kernel, by decide +kernel⟩, List.mem_of_getElem? (i := 672) (by decide +kernel), List.mem_of_getElem? (i := 914) (by decide +kernel), List.mem_of_getElem? (i := 915) (by decide +kernel)⟩
theorem lw_p50 : lw_okq (⟨"SmellHowLongModel", "goesAhead", "(I)V"⟩, 30) := ⟨⟨by decide +kernel, by decide +kernel⟩, List.mem_of_getElem? (i := 672) (by decide +kernel), List.mem_of_getElem? (i := 922) (by decide +kernel), List.mem_of_getElem? (i := 923) (by decide +kernel)⟩
theorem lw_p51 : lw_okq (⟨"SmellHowLongModel", "findWays", "(I)V"⟩, 30) := ⟨⟨by decide +kernel, by decide +kernel⟩, List.mem_of_getElem? (i := 672) (by decide +kernel), List.mem_of_getElem? (i := 942) (by decide +kernel), List.mem_of_getElem? (i := 943) (by decide +kernel)⟩
theorem lw_p52 : lw_okq (⟨"SmellHowLongModel", "areMinutes", "(I)Z"⟩, 30) := ⟨⟨by decide +kernel, by decide +kernel⟩, List.mem_of_getElem? (i := 672) (by decide +kernel), List.mem_of_getElem? (i := 946) (by decide +kernel), List.mem_of_getElem? (i := 947) (by decide +kernel)⟩
theorem lw_p53 : lw_okq (⟨"SmellHowLongModel", "isStep", "(II)Z"⟩, 30) := ⟨⟨by decide +kernel, by decide +kernel⟩, List.mem_of_getElem? (i := 672) (by decide +kernel), List.mem_of_getElem? (i := 950) (by decide +kernel), List.mem_of_getElem? (i := 951) (by decide +kernel)⟩
theorem lw_p54 : lw_okq (⟨"SmellHowLongModel", "mayBe", "(III)Z"⟩, 30) := ⟨⟨by decide +kernel, by decide +kernel⟩, List.mem_of_getElem? (i := 672) (by decide +kernel), List.mem_of_getElem? (i := 954) (by decide +kernel), List.mem_of_getElem? (i := 955) (by decide +kernel)⟩
theorem lw_p55 : lw_okq (⟨"SmellHowLongModel", "notAsked", "(II)I"⟩, 30) := ⟨⟨by decide +kernel, by decide +kernel⟩, List.mem_of_getElem? (i := 672) (by decide +kernel), List.mem_of_getElem? (i := 962) (by decide +kernel), List.mem_of_getElem? (i := 963) (by decide +kernel)⟩
theorem lw_p56 : lw_okq (⟨"SmellHowLongModel", "waysBy", "(II)J"⟩, 30) := ⟨⟨by decide +kernel, by decide +kernel⟩, List.mem_of_getElem? (i := 672) (by decide +kernel), List.mem_of_getElem? (i := 966) (by decide +kernel), List.mem_of_getElem? (i := 967) (by decide +kernel)⟩
theorem lw_p57 : lw_okq (⟨"SmellHowLongModel", "soonest", "(IIZ)I"⟩, 30) := ⟨⟨by decide +kernel, by decide +kernel⟩, List.mem_of_getElem? (i := 672) (by decide +kernel), List.mem_of_getElem? (i := 978) (by decide +kernel), List.mem_of_getElem? (i := 979) (by decide +kernel)⟩
theorem lw_p58 : lw_okq (⟨"SmellHowLongModel", "isLet", "(IZ)Z"⟩, 30) := ⟨⟨by decide +kernel, by decide +kernel⟩, List.mem_of_getElem? (i := 672) (by decide +kernel), List.mem_of_getElem? (i := 982) (by decide +kernel), List.mem_of_getElem? (i := 983) (by decide +kernel)⟩
theorem lw_p59 : lw_okq (⟨"SmellHowLongModel", "isAlone", "(I)Z"⟩, 30) := ⟨⟨by decide +kernel, by decide +kernel⟩, List.mem_of_getElem? (i := 672) (by decide +kernel), List.mem_of_getElem? (i := 994) (by decide +kernel), List.mem_of_getElem? (i := 995) (by decide +kernel)⟩
theorem lw_p60 : lw_okq (⟨"SmellHowLongModel", "pathMany", "()I"⟩, 30) := ⟨⟨by decide +kernel, by decide +kernel⟩, List.mem_of_getElem? (i := 672) (by decide +kernel), List.mem_of_getElem? (i := 1021) (by decide +kernel), List.mem_of_getElem? (i := 1022) (by decide +kernel)⟩
theorem lw_p61 : lw_okq (⟨"SmellHowLongModel", "traceMany", "()I"⟩, 30) := ⟨⟨by decide +kernel, by decide +kernel⟩, List.mem_of_getElem? (i := 672) (by decide +kernel), List.mem_of_getElem? (i := 1025) (by decide +kernel), List.mem_of_getElem? (i := 1026) (by decide +kernel)⟩
def lw_privs_4 : List (MethodName × Nat) := [(⟨"SmellHowLongModel", "tracesIn", "(I)I"⟩, 30), (⟨"SmellHowLongModel", "toldApart", "(I)I"⟩, 30), (⟨"SmellHowLongModel", "goesAhead", "(I)V"⟩, 30), (⟨"SmellHowLongModel", "findWays", "(I)V"⟩, 30), (⟨"SmellHowLongModel", "areMinutes", "(I)Z"⟩, 30), (⟨"SmellHowLongModel", "isStep", "(II)Z"⟩, 30), (⟨"SmellHowLongModel", "mayBe", "(III)Z"⟩, 30), (⟨"SmellHowLongModel", "notAsked", "(II)I"⟩, 30), (⟨"SmellHowLongModel", "waysBy", "(II)J"⟩, 30), (⟨"SmellHowLongModel", "soonest", "(IIZ)I"⟩, 30), (⟨"SmellHowLongModel", "isLet", "(IZ)Z"⟩, 30), (⟨"SmellHowLongModel", "isAlone", "(I)Z"⟩, 30), (⟨"SmellHowLongModel", "pathMany", "()I"⟩, 30), (⟨"SmellHowLongModel", "traceMany", "()I"⟩, 30)]
theorem lw_r4 : ∀ q ∈ lw_privs_4, lw_okq q := List.forall_mem_cons.mpr ⟨lw_p48, List.forall_mem_cons.mpr ⟨lw_p49, List.forall_mem_cons.mpr ⟨lw_p50, List.forall_mem_cons.mpr ⟨lw_p51, List.forall_mem_cons.mpr ⟨lw_p52, List.forall_mem_cons.mpr ⟨lw_p53, List.forall_mem_cons.mpr ⟨lw_p54, List.forall_mem_cons.mpr ⟨lw_p55, List.forall_mem_cons.mpr ⟨lw_p56, List.forall_mem_cons.mpr ⟨lw_p57, List.forall_mem_cons.mpr ⟨lw_p58, List.forall_mem_cons.mpr ⟨lw_p59, List.forall_mem_cons.mpr ⟨lw_p60, List.forall_mem_cons.mpr ⟨lw_p61, fun _ h => absurd h List.not_mem_nil⟩⟩⟩⟩⟩⟩⟩⟩⟩⟩⟩⟩⟩⟩
def lw_privs : List (MethodName × Nat) := lw_privs_1 ++ (lw_privs_2 ++ (lw_privs_3 ++ (lw_privs_4)))
def lw_tbl : List Cond := k2_sels lw_privs ++ tables_1
theorem lw_privs_ok : ∀ q ∈ lw_privs, lw_okq q := by
  show ∀ q ∈ lw_privs_1 ++ (lw_privs_2 ++ (lw_privs_3 ++ (lw_privs_4))), lw_okq q
  exact List.forall_mem_append.mpr ⟨lw_r1, List.forall_mem_append.mpr ⟨lw_r2, List.forall_mem_append.mpr ⟨lw_r3, lw_r4⟩⟩⟩
/-- the tables' words that a callee may be handed -/
def tbG : List Cond := lw_tbl.filter goodWord
theorem tv_1 {i : Nat} {w : Cond} (h : tables_1_1[i]? = some w) : w ∈ lw_tbl := List.mem_append_right _ (List.mem_append_left _ (List.mem_of_getElem? h))
theorem tv_2 {i : Nat} {w : Cond} (h : tables_1_2[i]? = some w) : w ∈ lw_tbl := List.mem_append_right _ (List.mem_append_right _ (List.mem_append_left _ (List.mem_of_getElem? h)))
theorem tv_3 {i : Nat} {w : Cond} (h : tables_1_3[i]? = some w) : w ∈ lw_tbl := List.mem_append_right _ (List.mem_append_right _ (List.mem_append_right _ (List.mem_append_left _ (List.mem_of_getElem? h))))
theorem tv_4 {i : Nat} {w : Cond} (h : tables_1_4[i]? = some w) : w ∈ lw_tbl := List.mem_append_right _ (List.mem_append_right _ (List.mem_append_right _ (List.mem_append_right _ (List.mem_append_left _ (List.mem_of_getElem? h)))))
theorem tv_5 {i : Nat} {w : Cond} (h : tables_1_5[i]? = some w) : w ∈ lw_tbl := List.mem_append_right _ (List.mem_append_right _ (List.mem_append_right _ (List.mem_append_right _ (List.mem_append_right _ (List.mem_of_getElem? h)))))
theorem tv_of {w : Cond} (h : w ∈ lw_tbl) (hg : goodWord w = true) : w ∈ tbG := List.mem_filter.mpr ⟨h, hg⟩
theorem tv_sel {q : MethodName × Nat} (h : q ∈ lw_privs) : Cond.selects q.1.cls q.1 q.1 ∈ tbG := tv_of (List.mem_append_left _ (List.mem_map.mpr ⟨q, h, rfl⟩)) rfl
theorem tb_goodIn {y : MethodName} {b : ByteArray} {n : Nat} {r : Option FieldType} (h : Cond.code y b n r ∈ tbG) {big : List Cond} (hb : ∀ w ∈ tbG, w ∈ big) : GoodIn big (Cond.code y b n r :: tbG) := by
  intro w hw
  rcases List.mem_cons.mp hw with rfl | hw
  · exact ⟨hb _ h, Or.inl rfl⟩
  · exact ⟨hb w hw, good_of_word (List.mem_filter.mp hw).2⟩
theorem tp_1 {i : Nat} {q : MethodName × Nat} (h : lw_privs_1[i]? = some q) : q ∈ lw_privs := List.mem_append_left _ (List.mem_of_getElem? h)
theorem tp_2 {i : Nat} {q : MethodName × Nat} (h : lw_privs_2[i]? = some q) : q ∈ lw_privs := List.mem_append_right _ (List.mem_append_left _ (List.mem_of_getElem? h))
theorem tp_3 {i : Nat} {q : MethodName × Nat} (h : lw_privs_3[i]? = some q) : q ∈ lw_privs := List.mem_append_right _ (List.mem_append_right _ (List.mem_append_left _ (List.mem_of_getElem? h)))
theorem tp_4 {i : Nat} {q : MethodName × Nat} (h : lw_privs_4[i]? = some q) : q ∈ lw_privs := List.mem_append_right _ (List.mem_append_right _ (List.mem_append_right _ (List.mem_of_getElem? h)))
def RX0 : String := "SmellHowLong$Telling"
def TX0 : u_T := fun k => match k with
  | 0 => ("SmellHowLong$Telling", "letters", "[I", true)
  | _ => ("SmellHowLong$Telling", "length", "I", false)
def tyX0 : Nat → FieldType := fun k => match k with
  | 0 => .array .int
  | _ => .int
abbrev wsX00 : List Cond := u_ws RX0 TX0 2
theorem nmX0 : ∀ a, a < 2 → ∀ b, b < 2 → a ≠ b → (TX0 a).2.1 ≠ (TX0 b).2.1 := by decide +kernel
theorem tyX0_ok : ∀ k, k < 2 → parseFieldDescriptor (TX0 k).2.2.1 = some (tyX0 k) := by decide +kernel
abbrev cX0_init : ByteArray := prog_2_method_1_code
def yX0_init : MethodName := ⟨RX0, "<init>", "()V"⟩
abbrev cX0_isFull : ByteArray := prog_2_method_2_code
def yX0_isFull : MethodName := ⟨RX0, "isFull", "()Z"⟩
abbrev cX0_lettersIn : ByteArray := prog_2_method_3_code
def yX0_lettersIn : MethodName := ⟨RX0, "lettersIn", "()I"⟩
abbrev cX0_take : ByteArray := prog_2_method_4_code
def yX0_take : MethodName := ⟨RX0, "take", "(I)I"⟩
abbrev cX0_forget : ByteArray := prog_2_method_5_code
def yX0_forget : MethodName := ⟨RX0, "forget", "()V"⟩
abbrev cX0_letterAt : ByteArray := prog_2_method_6_code
def yX0_letterAt : MethodName := ⟨RX0, "letterAt", "(I)I"⟩
abbrev cX0_isDigit : ByteArray := prog_2_method_7_code
def yX0_isDigit : MethodName := ⟨RX0, "isDigit", "(I)Z"⟩
abbrev cX0_digitAt : ByteArray := prog_2_method_8_code
def yX0_digitAt : MethodName := ⟨RX0, "digitAt", "(I)I"⟩
abbrev cX0_kindAt : ByteArray := prog_2_method_9_code
def yX0_kindAt : MethodName := ⟨RX0, "kindAt", "(I)I"⟩
abbrev cX0_leastDigits : ByteArray := prog_2_method_10_code
def yX0_leastDigits : MethodName := ⟨RX0, "leastDigits", "(I)I"⟩
abbrev cX0_mostDigits : ByteArray := prog_2_method_11_code
def yX0_mostDigits : MethodName := ⟨RX0, "mostDigits", "(I)I"⟩
abbrev cX0_digitsFrom : ByteArray := prog_2_method_12_code
def yX0_digitsFrom : MethodName := ⟨RX0, "digitsFrom", "(II)I"⟩
abbrev cX0_firstWrongLetter : ByteArray := prog_2_method_13_code
def yX0_firstWrongLetter : MethodName := ⟨RX0, "firstWrongLetter", "()I"⟩
abbrev cX0_tell : ByteArray := prog_2_method_14_code
def yX0_tell : MethodName := ⟨RX0, "tell", "(LSmellHowLong$Town;)I"⟩
abbrev cX0_tellStatement : ByteArray := prog_2_method_15_code
def yX0_tellStatement : MethodName := ⟨RX0, "tellStatement", "(LSmellHowLong$Town;II)Z"⟩
abbrev cX0_tellPath : ByteArray := prog_2_method_16_code
def yX0_tellPath : MethodName := ⟨RX0, "tellPath", "(LSmellHowLong$Town;I)Z"⟩
abbrev cX0_tellWind : ByteArray := prog_2_method_17_code
def yX0_tellWind : MethodName := ⟨RX0, "tellWind", "(LSmellHowLong$Town;I)Z"⟩
abbrev cX0_tellRoof : ByteArray := prog_2_method_18_code
def yX0_tellRoof : MethodName := ⟨RX0, "tellRoof", "(LSmellHowLong$Town;I)Z"⟩
abbrev cX0_tellNose : ByteArray := prog_2_method_19_code
def yX0_tellNose : MethodName := ⟨RX0, "tellNose", "(LSmellHowLong$Town;I)Z"⟩
abbrev cX0_tellWalker : ByteArray := prog_2_method_20_code
def yX0_tellWalker : MethodName := ⟨RX0, "tellWalker", "(LSmellHowLong$Town;II)Z"⟩
def RX1 : String := "SmellHowLong$Town"
def TX1 : u_T := fun k => match k with
  | 0 => ("SmellHowLong$Town", "winds", "[I", true)
  | 1 => ("SmellHowLong$Town", "roofs", "I", false)
  | 2 => ("SmellHowLong$Town", "paths", "[I", true)
  | 3 => ("SmellHowLong$Town", "walkers", "I", false)
  | 4 => ("SmellHowLong$Town", "kinds", "[I", true)
  | 5 => ("SmellHowLong$Town", "places", "[I", true)
  | 6 => ("SmellHowLong$Town", "goals", "[I", true)
  | 7 => ("SmellHowLong$Town", "planLengths", "[I", true)
  | 8 => ("SmellHowLong$Town", "plans", "[[I", true)
  | 9 => ("SmellHowLong$Town", "left", "[[I", true)
  | 10 => ("SmellHowLong$Town", "minute", "I", false)
  | _ => ("SmellHowLong$Town", "nose", "I", false)
def tyX1 : Nat → FieldType := fun k => match k with
  | 0 => .array .int
  | 1 => .int
  | 2 => .array .int
  | 3 => .int
  | 4 => .array .int
  | 5 => .array .int
  | 6 => .array .int
  | 7 => .array .int
  | 8 => .array (.array .int)
  | 9 => .array (.array .int)
  | 10 => .int
  | _ => .int
abbrev wsX10 : List Cond := u_ws RX1 TX1 12
theorem nmX1 : ∀ a, a < 12 → ∀ b, b < 12 → a ≠ b → (TX1 a).2.1 ≠ (TX1 b).2.1 := by decide +kernel
theorem tyX1_ok : ∀ k, k < 12 → parseFieldDescriptor (TX1 k).2.2.1 = some (tyX1 k) := by decide +kernel
abbrev cX1_init : ByteArray := prog_3_method_1_code
def yX1_init : MethodName := ⟨RX1, "<init>", "()V"⟩
abbrev cX1_become : ByteArray := prog_3_method_2_code
def yX1_become : MethodName := ⟨RX1, "become", "(LSmellHowLong$Town;)V"⟩
abbrev cX1_isWalker : ByteArray := prog_3_method_3_code
def yX1_isWalker : MethodName := ⟨RX1, "isWalker", "(I)Z"⟩
abbrev cX1_hasSpace : ByteArray := prog_3_method_4_code
def yX1_hasSpace : MethodName := ⟨RX1, "hasSpace", "()Z"⟩
abbrev cX1_walkersIn : ByteArray := prog_3_method_5_code
def yX1_walkersIn : MethodName := ⟨RX1, "walkersIn", "()I"⟩
abbrev cX1_minuteNow : ByteArray := prog_3_method_6_code
def yX1_minuteNow : MethodName := ⟨RX1, "minuteNow", "()I"⟩
abbrev cX1_noseNow : ByteArray := prog_3_method_7_code
def yX1_noseNow : MethodName := ⟨RX1, "noseNow", "()I"⟩
abbrev cX1_setNose : ByteArray := prog_3_method_8_code
def yX1_setNose : MethodName := ⟨RX1, "setNose", "(I)V"⟩
abbrev cX1_windIn : ByteArray := prog_3_method_9_code
def yX1_windIn : MethodName := ⟨RX1, "windIn", "(I)I"⟩
abbrev cX1_setWind : ByteArray := prog_3_method_10_code
def yX1_setWind : MethodName := ⟨RX1, "setWind", "(II)V"⟩
abbrev cX1_hasRoof : ByteArray := prog_3_method_11_code
def yX1_hasRoof : MethodName := ⟨RX1, "hasRoof", "(I)Z"⟩
abbrev cX1_turnRoof : ByteArray := prog_3_method_12_code
def yX1_turnRoof : MethodName := ⟨RX1, "turnRoof", "(I)V"⟩
abbrev cX1_pathsFrom : ByteArray := prog_3_method_13_code
def yX1_pathsFrom : MethodName := ⟨RX1, "pathsFrom", "(I)I"⟩
abbrev cX1_isPath : ByteArray := prog_3_method_14_code
def yX1_isPath : MethodName := ⟨RX1, "isPath", "(II)Z"⟩
abbrev cX1_turnPath : ByteArray := prog_3_method_15_code
def yX1_turnPath : MethodName := ⟨RX1, "turnPath", "(II)V"⟩
abbrev cX1_pathsIn : ByteArray := prog_3_method_16_code
def yX1_pathsIn : MethodName := ⟨RX1, "pathsIn", "()I"⟩
abbrev cX1_within : ByteArray := prog_3_method_17_code
def yX1_within : MethodName := ⟨RX1, "within", "(I)I"⟩
abbrev cX1_addWalker : ByteArray := prog_3_method_18_code
def yX1_addWalker : MethodName := ⟨RX1, "addWalker", "(II)V"⟩
abbrev cX1_addToLastPlan : ByteArray := prog_3_method_19_code
def yX1_addToLastPlan : MethodName := ⟨RX1, "addToLastPlan", "(I)V"⟩
abbrev cX1_kindOf : ByteArray := prog_3_method_20_code
def yX1_kindOf : MethodName := ⟨RX1, "kindOf", "(I)I"⟩
abbrev cX1_placeOf : ByteArray := prog_3_method_21_code
def yX1_placeOf : MethodName := ⟨RX1, "placeOf", "(I)I"⟩
abbrev cX1_place : ByteArray := prog_3_method_22_code
def yX1_place : MethodName := ⟨RX1, "place", "(II)V"⟩
abbrev cX1_planLengthOf : ByteArray := prog_3_method_23_code
def yX1_planLengthOf : MethodName := ⟨RX1, "planLengthOf", "(I)I"⟩
abbrev cX1_goalOf : ByteArray := prog_3_method_24_code
def yX1_goalOf : MethodName := ⟨RX1, "goalOf", "(I)I"⟩
abbrev cX1_plannedGoal : ByteArray := prog_3_method_25_code
def yX1_plannedGoal : MethodName := ⟨RX1, "plannedGoal", "(I)I"⟩
abbrev cX1_smeltGoal : ByteArray := prog_3_method_26_code
def yX1_smeltGoal : MethodName := ⟨RX1, "smeltGoal", "(IZ)I"⟩
abbrev cX1_goOn : ByteArray := prog_3_method_27_code
def yX1_goOn : MethodName := ⟨RX1, "goOn", "(I)V"⟩
abbrev cX1_arrive : ByteArray := prog_3_method_28_code
def yX1_arrive : MethodName := ⟨RX1, "arrive", "(II)V"⟩
abbrev cX1_leaveTrace : ByteArray := prog_3_method_29_code
def yX1_leaveTrace : MethodName := ⟨RX1, "leaveTrace", "(I)V"⟩
abbrev cX1_scatter : ByteArray := prog_3_method_30_code
def yX1_scatter : MethodName := ⟨RX1, "scatter", "(I)I"⟩
abbrev cX1_washOut : ByteArray := prog_3_method_31_code
def yX1_washOut : MethodName := ⟨RX1, "washOut", "()I"⟩
abbrev cX1_forgetTraces : ByteArray := prog_3_method_32_code
def yX1_forgetTraces : MethodName := ⟨RX1, "forgetTraces", "(I)V"⟩
abbrev cX1_hasTrace : ByteArray := prog_3_method_33_code
def yX1_hasTrace : MethodName := ⟨RX1, "hasTrace", "(II)Z"⟩
abbrev cX1_ageOf : ByteArray := prog_3_method_34_code
def yX1_ageOf : MethodName := ⟨RX1, "ageOf", "(III)I"⟩
abbrev cX1_smellOf : ByteArray := prog_3_method_35_code
def yX1_smellOf : MethodName := ⟨RX1, "smellOf", "(III)I"⟩
abbrev cX1_tracesIn : ByteArray := prog_3_method_36_code
def yX1_tracesIn : MethodName := ⟨RX1, "tracesIn", "(I)I"⟩
abbrev cX1_allTraces : ByteArray := prog_3_method_37_code
def yX1_allTraces : MethodName := ⟨RX1, "allTraces", "()I"⟩
abbrev cX1_leastAge : ByteArray := prog_3_method_38_code
def yX1_leastAge : MethodName := ⟨RX1, "leastAge", "(I)I"⟩
abbrev cX1_greatestAge : ByteArray := prog_3_method_39_code
def yX1_greatestAge : MethodName := ⟨RX1, "greatestAge", "(I)I"⟩
abbrev cX1_ageAmong : ByteArray := prog_3_method_40_code
def yX1_ageAmong : MethodName := ⟨RX1, "ageAmong", "(IIZ)I"⟩
abbrev cX1_isBeyond : ByteArray := prog_3_method_41_code
def yX1_isBeyond : MethodName := ⟨RX1, "isBeyond", "(IIZ)Z"⟩
abbrev cX1_toldApartIn : ByteArray := prog_3_method_42_code
def yX1_toldApartIn : MethodName := ⟨RX1, "toldApartIn", "(I)I"⟩
abbrev cX1_smellsAsOneBefore : ByteArray := prog_3_method_43_code
def yX1_smellsAsOneBefore : MethodName := ⟨RX1, "smellsAsOneBefore", "(II)Z"⟩
abbrev cX1_isFreshestApart : ByteArray := prog_3_method_44_code
def yX1_isFreshestApart : MethodName := ⟨RX1, "isFreshestApart", "(II)Z"⟩
abbrev cX1_walkersAmongOthersTraces : ByteArray := prog_3_method_45_code
def yX1_walkersAmongOthersTraces : MethodName := ⟨RX1, "walkersAmongOthersTraces", "()I"⟩
abbrev cX1_emptyRooms : ByteArray := prog_3_method_46_code
def yX1_emptyRooms : MethodName := ⟨RX1, "emptyRooms", "()I"⟩
abbrev cX1_roomsWithTraceUpTo : ByteArray := prog_3_method_47_code
def yX1_roomsWithTraceUpTo : MethodName := ⟨RX1, "roomsWithTraceUpTo", "(I)I"⟩
def RX2 : String := "SmellHowLong$Walks"
def TX2 : u_T := fun k => match k with
  | 0 => ("SmellHowLong$Walks", "open", "[I", true)
  | 1 => ("SmellHowLong$Walks", "waysTo", "[[I", true)
  | 2 => ("SmellHowLong$Walks", "waysOn", "[[I", true)
  | _ => ("SmellHowLong$Walks", "last", "I", false)
def tyX2 : Nat → FieldType := fun k => match k with
  | 0 => .array .int
  | 1 => .array (.array .int)
  | 2 => .array (.array .int)
  | _ => .int
abbrev wsX20 : List Cond := u_ws RX2 TX2 4
theorem nmX2 : ∀ a, a < 4 → ∀ b, b < 4 → a ≠ b → (TX2 a).2.1 ≠ (TX2 b).2.1 := by decide +kernel
theorem tyX2_ok : ∀ k, k < 4 → parseFieldDescriptor (TX2 k).2.2.1 = some (tyX2 k) := by decide +kernel
abbrev cX2_init : ByteArray := prog_4_method_1_code
def yX2_init : MethodName := ⟨RX2, "<init>", "()V"⟩
abbrev cX2_find : ByteArray := prog_4_method_2_code
def yX2_find : MethodName := ⟨RX2, "find", "([IILSmellHowLong$Town;)V"⟩
abbrev cX2_openRooms : ByteArray := prog_4_method_3_code
def yX2_openRooms : MethodName := ⟨RX2, "openRooms", "([II)I"⟩
abbrev cX2_openWays : ByteArray := prog_4_method_4_code
def yX2_openWays : MethodName := ⟨RX2, "openWays", "(III)I"⟩
abbrev cX2_sumWithin : ByteArray := prog_4_method_5_code
def yX2_sumWithin : MethodName := ⟨RX2, "sumWithin", "([IILSmellHowLong$Town;)I"⟩
abbrev cX2_waysThrough : ByteArray := prog_4_method_6_code
def yX2_waysThrough : MethodName := ⟨RX2, "waysThrough", "(II)I"⟩
abbrev cX2_ways : ByteArray := prog_4_method_7_code
def yX2_ways : MethodName := ⟨RX2, "ways", "()I"⟩
abbrev cX2_commonestRoom : ByteArray := prog_4_method_8_code
def yX2_commonestRoom : MethodName := ⟨RX2, "commonestRoom", "(I)I"⟩
abbrev cX2_roomsThen : ByteArray := prog_4_method_9_code
def yX2_roomsThen : MethodName := ⟨RX2, "roomsThen", "(I)I"⟩
def RX3 : String := "SmellHowLong"
def TX3 : u_T := fun k => match k with
  | 0 => ("SmellHowLong", "now", "LSmellHowLong$Town;", true)
  | 1 => ("SmellHowLong", "mind", "LSmellHowLong$Town;", true)
  | 2 => ("SmellHowLong", "taken", "LSmellHowLong$Town;", true)
  | 3 => ("SmellHowLong", "isTaken", "Z", false)
  | 4 => ("SmellHowLong", "telling", "LSmellHowLong$Telling;", true)
  | 5 => ("SmellHowLong", "walks", "LSmellHowLong$Walks;", true)
  | 6 => ("SmellHowLong", "numbers", "[I", true)
  | 7 => ("SmellHowLong", "numbersIn", "I", false)
  | _ => ("SmellHowLong", "refused", "[I", true)
def tyX3 : Nat → FieldType := fun k => match k with
  | 0 => .object "SmellHowLong$Town"
  | 1 => .object "SmellHowLong$Town"
  | 2 => .object "SmellHowLong$Town"
  | 3 => .boolean
  | 4 => .object "SmellHowLong$Telling"
  | 5 => .object "SmellHowLong$Walks"
  | 6 => .array .int
  | 7 => .int
  | _ => .array .int
abbrev wsX30 : List Cond := u_ws RX3 TX3 9
theorem nmX3 : ∀ a, a < 9 → ∀ b, b < 9 → a ≠ b → (TX3 a).2.1 ≠ (TX3 b).2.1 := by decide +kernel
theorem tyX3_ok : ∀ k, k < 9 → parseFieldDescriptor (TX3 k).2.2.1 = some (tyX3 k) := by decide +kernel
abbrev cX3_init : ByteArray := prog_1_method_1_code
def yX3_init : MethodName := ⟨RX3, "<init>", "()V"⟩
abbrev cX3_letter : ByteArray := prog_1_method_2_code
def yX3_letter : MethodName := ⟨RX3, "letter", "(I)I"⟩
abbrev cX3_town : ByteArray := prog_1_method_3_code
def yX3_town : MethodName := ⟨RX3, "town", "()I"⟩
abbrev cX3_room : ByteArray := prog_1_method_4_code
def yX3_room : MethodName := ⟨RX3, "room", "(II)I"⟩
abbrev cX3_walker : ByteArray := prog_1_method_5_code
def yX3_walker : MethodName := ⟨RX3, "walker", "(II)I"⟩
abbrev cX3_put : ByteArray := prog_1_method_6_code
def yX3_put : MethodName := ⟨RX3, "put", "(II)I"⟩
abbrev cX3_wind : ByteArray := prog_1_method_7_code
def yX3_wind : MethodName := ⟨RX3, "wind", "(II)I"⟩
abbrev cX3_nose : ByteArray := prog_1_method_8_code
def yX3_nose : MethodName := ⟨RX3, "nose", "(I)I"⟩
abbrev cX3_pass : ByteArray := prog_1_method_9_code
def yX3_pass : MethodName := ⟨RX3, "pass", "(I)I"⟩
abbrev cX3_rain : ByteArray := prog_1_method_10_code
def yX3_rain : MethodName := ⟨RX3, "rain", "()I"⟩
abbrev cX3_age : ByteArray := prog_1_method_11_code
def yX3_age : MethodName := ⟨RX3, "age", "(II)I"⟩
abbrev cX3_smelt : ByteArray := prog_1_method_12_code
def yX3_smelt : MethodName := ⟨RX3, "smelt", "(II)I"⟩
abbrev cX3_behind : ByteArray := prog_1_method_13_code
def yX3_behind : MethodName := ⟨RX3, "behind", "(II)I"⟩
abbrev cX3_freshest : ByteArray := prog_1_method_14_code
def yX3_freshest : MethodName := ⟨RX3, "freshest", "(II)I"⟩
abbrev cX3_meet : ByteArray := prog_1_method_15_code
def yX3_meet : MethodName := ⟨RX3, "meet", "(II)I"⟩
abbrev cX3_scented : ByteArray := prog_1_method_16_code
def yX3_scented : MethodName := ⟨RX3, "scented", "(I)I"⟩
abbrev cX3_walked : ByteArray := prog_1_method_17_code
def yX3_walked : MethodName := ⟨RX3, "walked", "(I)I"⟩
abbrev cX3_likeliest : ByteArray := prog_1_method_18_code
def yX3_likeliest : MethodName := ⟨RX3, "likeliest", "(II)I"⟩
abbrev cX3_sure : ByteArray := prog_1_method_19_code
def yX3_sure : MethodName := ⟨RX3, "sure", "(II)I"⟩
abbrev cX3_across : ByteArray := prog_1_method_20_code
def yX3_across : MethodName := ⟨RX3, "across", "(II)I"⟩
abbrev cX3_covered : ByteArray := prog_1_method_21_code
def yX3_covered : MethodName := ⟨RX3, "covered", "(II)I"⟩
abbrev cX3_told : ByteArray := prog_1_method_22_code
def yX3_told : MethodName := ⟨RX3, "told", "(I)I"⟩
abbrev cX3_row : ByteArray := prog_1_method_23_code
def yX3_row : MethodName := ⟨RX3, "row", "(I)I"⟩
abbrev cX3_judge : ByteArray := prog_1_method_24_code
def yX3_judge : MethodName := ⟨RX3, "judge", "()I"⟩
abbrev cX3_clear : ByteArray := prog_1_method_25_code
def yX3_clear : MethodName := ⟨RX3, "clear", "()I"⟩
abbrev cX3_seeds : ByteArray := prog_1_method_26_code
def yX3_seeds : MethodName := ⟨RX3, "seeds", "(III)I"⟩
abbrev cX3_image : ByteArray := prog_1_method_27_code
def yX3_image : MethodName := ⟨RX3, "image", "()I"⟩
abbrev cX3_on : ByteArray := prog_1_method_28_code
def yX3_on : MethodName := ⟨RX3, "on", "()I"⟩
abbrev cX3_count : ByteArray := prog_1_method_29_code
def yX3_count : MethodName := ⟨RX3, "count", "(I)I"⟩
abbrev cX3_refuse : ByteArray := prog_1_method_30_code
def yX3_refuse : MethodName := ⟨RX3, "refuse", "(I)I"⟩
abbrev cX3_isRoom : ByteArray := prog_1_method_31_code
def yX3_isRoom : MethodName := ⟨RX3, "isRoom", "(I)Z"⟩
abbrev cX3_outside : ByteArray := prog_1_method_32_code
def yX3_outside : MethodName := ⟨RX3, "outside", "(III)I"⟩
abbrev cX3_walksRefusal : ByteArray := prog_1_method_33_code
def yX3_walksRefusal : MethodName := ⟨RX3, "walksRefusal", "(II)I"⟩
abbrev cX3_toldTown : ByteArray := prog_1_method_34_code
def yX3_toldTown : MethodName := ⟨RX3, "toldTown", "()I"⟩
abbrev cX3_think : ByteArray := prog_1_method_35_code
def yX3_think : MethodName := ⟨RX3, "think", "(I)V"⟩
abbrev cX3_soonest : ByteArray := prog_1_method_36_code
def yX3_soonest : MethodName := ⟨RX3, "soonest", "(IIZ)I"⟩
abbrev cX3_firstWrong : ByteArray := prog_1_method_37_code
def yX3_firstWrong : MethodName := ⟨RX3, "firstWrong", "()I"⟩
def RX4 : String := "SmellHowLongModel"
def TX4 : u_T := fun k => match k with
  | 0 => ("SmellHowLongModel", "refused", "[I", true)
  | 1 => ("SmellHowLongModel", "windOf", "[I", true)
  | 2 => ("SmellHowLongModel", "roof", "[I", true)
  | 3 => ("SmellHowLongModel", "paths", "[I", true)
  | 4 => ("SmellHowLongModel", "kind", "[I", true)
  | 5 => ("SmellHowLongModel", "place", "[I", true)
  | 6 => ("SmellHowLongModel", "planLong", "[I", true)
  | 7 => ("SmellHowLongModel", "plan", "[I", true)
  | 8 => ("SmellHowLongModel", "trace", "[I", true)
  | 9 => ("SmellHowLongModel", "walkers", "I", false)
  | 10 => ("SmellHowLongModel", "minute", "I", false)
  | 11 => ("SmellHowLongModel", "nose", "I", false)
  | 12 => ("SmellHowLongModel", "tape", "[I", true)
  | 13 => ("SmellHowLongModel", "letter", "[I", true)
  | 14 => ("SmellHowLongModel", "letterAt", "[I", true)
  | 15 => ("SmellHowLongModel", "told", "[I", true)
  | 16 => ("SmellHowLongModel", "from", "[I", true)
  | 17 => ("SmellHowLongModel", "till", "[I", true)
  | 18 => ("SmellHowLongModel", "taped", "I", false)
  | 19 => ("SmellHowLongModel", "at", "I", false)
  | 20 => ("SmellHowLongModel", "statements", "I", false)
  | 21 => ("SmellHowLongModel", "kept", "[I", true)
  | 22 => ("SmellHowLongModel", "hasImage", "Z", false)
  | 23 => ("SmellHowLongModel", "isKeeping", "Z", false)
  | 24 => ("SmellHowLongModel", "cursor", "I", false)
  | 25 => ("SmellHowLongModel", "going", "[I", true)
  | 26 => ("SmellHowLongModel", "row", "[I", true)
  | 27 => ("SmellHowLongModel", "rowMany", "I", false)
  | 28 => ("SmellHowLongModel", "upTo", "[J", true)
  | _ => ("SmellHowLongModel", "fromOn", "[J", true)
def tyX4 : Nat → FieldType := fun k => match k with
  | 0 => .array .int
  | 1 => .array .int
  | 2 => .array .int
  | 3 => .array .int
  | 4 => .array .int
  | 5 => .array .int
  | 6 => .array .int
  | 7 => .array .int
  | 8 => .array .int
  | 9 => .int
  | 10 => .int
  | 11 => .int
  | 12 => .array .int
  | 13 => .array .int
  | 14 => .array .int
  | 15 => .array .int
  | 16 => .array .int
  | 17 => .array .int
  | 18 => .int
  | 19 => .int
  | 20 => .int
  | 21 => .array .int
  | 22 => .boolean
  | 23 => .boolean
  | 24 => .int
  | 25 => .array .int
  | 26 => .array .int
  | 27 => .int
  | 28 => .array .long
  | _ => .array .long
abbrev wsX40 : List Cond := u_ws RX4 TX4 30
theorem nmX4 : ∀ a, a < 30 → ∀ b, b < 30 → a ≠ b → (TX4 a).2.1 ≠ (TX4 b).2.1 := by decide +kernel
theorem tyX4_ok : ∀ k, k < 30 → parseFieldDescriptor (TX4 k).2.2.1 = some (tyX4 k) := by decide +kernel
abbrev cX4_init : ByteArray := prog_6_method_1_code
def yX4_init : MethodName := ⟨RX4, "<init>", "()V"⟩
abbrev cX4_no : ByteArray := prog_6_method_2_code
def yX4_no : MethodName := ⟨RX4, "no", "(I)I"⟩
abbrev cX4_isIn : ByteArray := prog_6_method_3_code
def yX4_isIn : MethodName := ⟨RX4, "isIn", "(III)Z"⟩
abbrev cX4_bound : ByteArray := prog_6_method_4_code
def yX4_bound : MethodName := ⟨RX4, "bound", "(III)I"⟩
abbrev cX4_isRoom : ByteArray := prog_6_method_5_code
def yX4_isRoom : MethodName := ⟨RX4, "isRoom", "(I)Z"⟩
abbrev cX4_isWalker : ByteArray := prog_6_method_6_code
def yX4_isWalker : MethodName := ⟨RX4, "isWalker", "(I)Z"⟩
abbrev cX4_letter : ByteArray := prog_6_method_7_code
def yX4_letter : MethodName := ⟨RX4, "letter", "(I)I"⟩
abbrev cX4_next : ByteArray := prog_6_method_8_code
def yX4_next : MethodName := ⟨RX4, "next", "()I"⟩
abbrev cX4_isDigit : ByteArray := prog_6_method_9_code
def yX4_isDigit : MethodName := ⟨RX4, "isDigit", "()Z"⟩
abbrev cX4_readsDigit : ByteArray := prog_6_method_10_code
def yX4_readsDigit : MethodName := ⟨RX4, "readsDigit", "(I)Z"⟩
abbrev cX4_kindOf : ByteArray := prog_6_method_11_code
def yX4_kindOf : MethodName := ⟨RX4, "kindOf", "(I)I"⟩
abbrev cX4_readsWalker : ByteArray := prog_6_method_12_code
def yX4_readsWalker : MethodName := ⟨RX4, "readsWalker", "(I)Z"⟩
abbrev cX4_statement : ByteArray := prog_6_method_13_code
def yX4_statement : MethodName := ⟨RX4, "statement", "()Z"⟩
abbrev cX4_comesWalker : ByteArray := prog_6_method_14_code
def yX4_comesWalker : MethodName := ⟨RX4, "comesWalker", "(I)Z"⟩
abbrev cX4_comes : ByteArray := prog_6_method_15_code
def yX4_comes : MethodName := ⟨RX4, "comes", "(I)Z"⟩
abbrev cX4_town : ByteArray := prog_6_method_16_code
def yX4_town : MethodName := ⟨RX4, "town", "()I"⟩
abbrev cX4_passes : ByteArray := prog_6_method_17_code
def yX4_passes : MethodName := ⟨RX4, "passes", "([I)V"⟩
abbrev cX4_passOne : ByteArray := prog_6_method_18_code
def yX4_passOne : MethodName := ⟨RX4, "passOne", "(I)I"⟩
abbrev cX4_passesAll : ByteArray := prog_6_method_19_code
def yX4_passesAll : MethodName := ⟨RX4, "passesAll", "(IZ)V"⟩
abbrev cX4_image : ByteArray := prog_6_method_20_code
def yX4_image : MethodName := ⟨RX4, "image", "()I"⟩
abbrev cX4_on : ByteArray := prog_6_method_21_code
def yX4_on : MethodName := ⟨RX4, "on", "()I"⟩
abbrev cX4_isTrace : ByteArray := prog_6_method_22_code
def yX4_isTrace : MethodName := ⟨RX4, "isTrace", "(II)Z"⟩
abbrev cX4_ageOf : ByteArray := prog_6_method_23_code
def yX4_ageOf : MethodName := ⟨RX4, "ageOf", "(II)I"⟩
abbrev cX4_tracesIn : ByteArray := prog_6_method_24_code
def yX4_tracesIn : MethodName := ⟨RX4, "tracesIn", "(I)I"⟩
abbrev cX4_endAge : ByteArray := prog_6_method_25_code
def yX4_endAge : MethodName := ⟨RX4, "endAge", "(IIZ)I"⟩
abbrev cX4_toldApart : ByteArray := prog_6_method_26_code
def yX4_toldApart : MethodName := ⟨RX4, "toldApart", "(I)I"⟩
abbrev cX4_isPath : ByteArray := prog_6_method_27_code
def yX4_isPath : MethodName := ⟨RX4, "isPath", "(II)Z"⟩
abbrev cX4_followed : ByteArray := prog_6_method_28_code
def yX4_followed : MethodName := ⟨RX4, "followed", "(I)I"⟩
abbrev cX4_wouldGo : ByteArray := prog_6_method_29_code
def yX4_wouldGo : MethodName := ⟨RX4, "wouldGo", "(I)I"⟩
abbrev cX4_goesMinute : ByteArray := prog_6_method_30_code
def yX4_goesMinute : MethodName := ⟨RX4, "goesMinute", "()V"⟩
abbrev cX4_room : ByteArray := prog_6_method_31_code
def yX4_room : MethodName := ⟨RX4, "room", "(II)I"⟩
abbrev cX4_walker : ByteArray := prog_6_method_32_code
def yX4_walker : MethodName := ⟨RX4, "walker", "(II)I"⟩
abbrev cX4_put : ByteArray := prog_6_method_33_code
def yX4_put : MethodName := ⟨RX4, "put", "(II)I"⟩
abbrev cX4_wind : ByteArray := prog_6_method_34_code
def yX4_wind : MethodName := ⟨RX4, "wind", "(II)I"⟩
abbrev cX4_nose : ByteArray := prog_6_method_35_code
def yX4_nose : MethodName := ⟨RX4, "nose", "(I)I"⟩
abbrev cX4_pass : ByteArray := prog_6_method_36_code
def yX4_pass : MethodName := ⟨RX4, "pass", "(I)I"⟩
abbrev cX4_rain : ByteArray := prog_6_method_37_code
def yX4_rain : MethodName := ⟨RX4, "rain", "()I"⟩
abbrev cX4_age : ByteArray := prog_6_method_38_code
def yX4_age : MethodName := ⟨RX4, "age", "(II)I"⟩
abbrev cX4_smelt : ByteArray := prog_6_method_39_code
def yX4_smelt : MethodName := ⟨RX4, "smelt", "(II)I"⟩
abbrev cX4_goesAhead : ByteArray := prog_6_method_40_code
def yX4_goesAhead : MethodName := ⟨RX4, "goesAhead", "(I)V"⟩
abbrev cX4_behind : ByteArray := prog_6_method_41_code
def yX4_behind : MethodName := ⟨RX4, "behind", "(II)I"⟩
abbrev cX4_freshest : ByteArray := prog_6_method_42_code
def yX4_freshest : MethodName := ⟨RX4, "freshest", "(II)I"⟩
abbrev cX4_meet : ByteArray := prog_6_method_43_code
def yX4_meet : MethodName := ⟨RX4, "meet", "(II)I"⟩
abbrev cX4_scented : ByteArray := prog_6_method_44_code
def yX4_scented : MethodName := ⟨RX4, "scented", "(I)I"⟩
abbrev cX4_mayBe : ByteArray := prog_6_method_45_code
def yX4_mayBe : MethodName := ⟨RX4, "mayBe", "(III)Z"⟩
abbrev cX4_areMinutes : ByteArray := prog_6_method_46_code
def yX4_areMinutes : MethodName := ⟨RX4, "areMinutes", "(I)Z"⟩
abbrev cX4_isStep : ByteArray := prog_6_method_47_code
def yX4_isStep : MethodName := ⟨RX4, "isStep", "(II)Z"⟩
abbrev cX4_findWays : ByteArray := prog_6_method_48_code
def yX4_findWays : MethodName := ⟨RX4, "findWays", "(I)V"⟩
abbrev cX4_walked : ByteArray := prog_6_method_49_code
def yX4_walked : MethodName := ⟨RX4, "walked", "(I)I"⟩
abbrev cX4_notAsked : ByteArray := prog_6_method_50_code
def yX4_notAsked : MethodName := ⟨RX4, "notAsked", "(II)I"⟩
abbrev cX4_waysBy : ByteArray := prog_6_method_51_code
def yX4_waysBy : MethodName := ⟨RX4, "waysBy", "(II)J"⟩
abbrev cX4_likeliest : ByteArray := prog_6_method_52_code
def yX4_likeliest : MethodName := ⟨RX4, "likeliest", "(II)I"⟩
abbrev cX4_sure : ByteArray := prog_6_method_53_code
def yX4_sure : MethodName := ⟨RX4, "sure", "(II)I"⟩
abbrev cX4_isLet : ByteArray := prog_6_method_54_code
def yX4_isLet : MethodName := ⟨RX4, "isLet", "(IZ)Z"⟩
abbrev cX4_soonest : ByteArray := prog_6_method_55_code
def yX4_soonest : MethodName := ⟨RX4, "soonest", "(IIZ)I"⟩
abbrev cX4_across : ByteArray := prog_6_method_56_code
def yX4_across : MethodName := ⟨RX4, "across", "(II)I"⟩
abbrev cX4_covered : ByteArray := prog_6_method_57_code
def yX4_covered : MethodName := ⟨RX4, "covered", "(II)I"⟩
abbrev cX4_isAlone : ByteArray := prog_6_method_58_code
def yX4_isAlone : MethodName := ⟨RX4, "isAlone", "(I)Z"⟩
abbrev cX4_told : ByteArray := prog_6_method_59_code
def yX4_told : MethodName := ⟨RX4, "told", "(I)I"⟩
abbrev cX4_row : ByteArray := prog_6_method_60_code
def yX4_row : MethodName := ⟨RX4, "row", "(I)I"⟩
abbrev cX4_clear : ByteArray := prog_6_method_61_code
def yX4_clear : MethodName := ⟨RX4, "clear", "()I"⟩
abbrev cX4_judge : ByteArray := prog_6_method_62_code
def yX4_judge : MethodName := ⟨RX4, "judge", "()I"⟩
abbrev cX4_seeds : ByteArray := prog_6_method_63_code
def yX4_seeds : MethodName := ⟨RX4, "seeds", "(III)I"⟩
abbrev cX4_pathMany : ByteArray := prog_6_method_64_code
def yX4_pathMany : MethodName := ⟨RX4, "pathMany", "()I"⟩
abbrev cX4_traceMany : ByteArray := prog_6_method_65_code
def yX4_traceMany : MethodName := ⟨RX4, "traceMany", "()I"⟩
abbrev cX4_count : ByteArray := prog_6_method_66_code
def yX4_count : MethodName := ⟨RX4, "count", "(I)I"⟩
def RJ11 : String := "java/lang/Character"
abbrev cJ11_isValidCodePoint_9a6ad : ByteArray := prog_7_method_11_code
def yJ11_isValidCodePoint_9a6ad : MethodName := ⟨RJ11, "isValidCodePoint", "(I)Z"⟩
abbrev cJ11_highSurrogate_5068e : ByteArray := prog_7_method_28_code
def yJ11_highSurrogate_5068e : MethodName := ⟨RJ11, "highSurrogate", "(I)C"⟩
abbrev cJ11_lowSurrogate_5068e : ByteArray := prog_7_method_29_code
def yJ11_lowSurrogate_5068e : MethodName := ⟨RJ11, "lowSurrogate", "(I)C"⟩
def RJ6 : String := "java/lang/Integer"
abbrev cJ6_bitCount_0f7a4 : ByteArray := prog_8_method_49_code
def yJ6_bitCount_0f7a4 : MethodName := ⟨RJ6, "bitCount", "(I)I"⟩
def RJ9 : String := "java/lang/Math"
abbrev cJ9_max_7cf53 : ByteArray := prog_9_method_65_code
def yJ9_max_7cf53 : MethodName := ⟨RJ9, "max", "(II)I"⟩
abbrev cJ9_min_7cf53 : ByteArray := prog_9_method_69_code
def yJ9_min_7cf53 : MethodName := ⟨RJ9, "min", "(II)I"⟩
def RJ0 : String := "java/lang/String"
abbrev cJ0_length_8abf5 : ByteArray := prog_10_method_54_code
def yJ0_length_8abf5 : MethodName := ⟨RJ0, "length", "()I"⟩
abbrev cJ0_indexOf_0f7a4 : ByteArray := prog_10_method_79_code
def yJ0_indexOf_0f7a4 : MethodName := ⟨RJ0, "indexOf", "(I)I"⟩
abbrev cJ0_indexOf_7cf53 : ByteArray := prog_10_method_80_code
def yJ0_indexOf_7cf53 : MethodName := ⟨RJ0, "indexOf", "(II)I"⟩
abbrev cJ0_coder_7d493 : ByteArray := prog_10_method_152_code
def yJ0_coder_7d493 : MethodName := ⟨RJ0, "coder", "()B"⟩
abbrev cJ0_isLatin1_aae02 : ByteArray := prog_10_method_154_code
def yJ0_isLatin1_aae02 : MethodName := ⟨RJ0, "isLatin1", "()Z"⟩
abbrev cJ0_checkBoundsBeginEnd_23922 : ByteArray := prog_10_method_158_code
def yJ0_checkBoundsBeginEnd_23922 : MethodName := ⟨RJ0, "checkBoundsBeginEnd", "(III)V"⟩
def RJ1 : String := "java/lang/StringLatin1"
abbrev cJ1_canEncode_9a6ad : ByteArray := prog_11_method_4_code
def yJ1_canEncode_9a6ad : MethodName := ⟨RJ1, "canEncode", "(I)Z"⟩
abbrev cJ1_indexOf_4cfef : ByteArray := prog_11_method_22_code
def yJ1_indexOf_4cfef : MethodName := ⟨RJ1, "indexOf", "([BIII)I"⟩
abbrev cJ1_indexOfChar_4cfef : ByteArray := prog_11_method_23_code
def yJ1_indexOfChar_4cfef : MethodName := ⟨RJ1, "indexOfChar", "([BIII)I"⟩
def RJ2 : String := "java/lang/StringUTF16"
abbrev cJ2_getChar_3b067 : ByteArray := prog_12_method_5_code
def yJ2_getChar_3b067 : MethodName := ⟨RJ2, "getChar", "([BI)C"⟩
abbrev cJ2_length_9d52b : ByteArray := prog_12_method_6_code
def yJ2_length_9d52b : MethodName := ⟨RJ2, "length", "([B)I"⟩
abbrev cJ2_indexOf_4cfef : ByteArray := prog_12_method_40_code
def yJ2_indexOf_4cfef : MethodName := ⟨RJ2, "indexOf", "([BIII)I"⟩
abbrev cJ2_indexOfChar_4cfef : ByteArray := prog_12_method_47_code
def yJ2_indexOfChar_4cfef : MethodName := ⟨RJ2, "indexOfChar", "([BIII)I"⟩
abbrev cJ2_indexOfCharUnsafe_4cfef : ByteArray := prog_12_method_48_code
def yJ2_indexOfCharUnsafe_4cfef : MethodName := ⟨RJ2, "indexOfCharUnsafe", "([BIII)I"⟩
abbrev cJ2_indexOfSupplementary_4cfef : ByteArray := prog_12_method_49_code
def yJ2_indexOfSupplementary_4cfef : MethodName := ⟨RJ2, "indexOfSupplementary", "([BIII)I"⟩
abbrev cJ2_checkBoundsBeginEnd_d044e : ByteArray := prog_12_method_93_code
def yJ2_checkBoundsBeginEnd_d044e : MethodName := ⟨RJ2, "checkBoundsBeginEnd", "(II[B)V"⟩
def RJ10 : String := "java/lang/System"
def RJ3 : String := "jdk/internal/util/Preconditions"
abbrev cJ3_checkFromToIndex_8c36e : ByteArray := prog_14_method_12_code
def yJ3_checkFromToIndex_8c36e : MethodName := ⟨RJ3, "checkFromToIndex", "(IIILjava/util/function/BiFunction;)I"⟩
def RL : String := "SmellHowLongLaw"
abbrev cL_law : ByteArray := code
def yL_law : MethodName := ⟨RL, "law", "([I)Z"⟩
abbrev vwCl : List vw_C := [(RX0, TX0, 2), (RX1, TX1, 12), (RX2, TX2, 4), (RX3, TX3, 9), (RX4, TX4, 30)]
