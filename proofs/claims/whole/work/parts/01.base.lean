-- ===== PART A: goes FIRST, ahead of the names: the tables' words, and 'selects' of the private methods out of them =====
/-- a private method of a class that the tables say can be made, by its rows of tables_1 -/
def lw_okq (q : MethodName × Nat) : Prop := (q.1.cls ≠ "java/lang/invoke/MethodHandle" ∧ q.1.cls ≠ "java/lang/invoke/VarHandle") ∧ Cond.instantiable q.1.cls q.2 ∈ tables_1 ∧ Cond.privateMethod q.1 ∈ tables_1 ∧ Cond.instanceMethod q.1 ∈ tables_1
theorem lw_p0 : lw_okq (⟨"WantPlots$Reader", "moveTo", "(I)Z"⟩, 3) := ⟨⟨by decide +kernel, by decide +kernel⟩, List.mem_of_getElem? (i := 38) (by decide +kernel), List.mem_of_getElem? (i := 310) (by decide +kernel), List.mem_of_getElem? (i := 311) (by decide +kernel)⟩
theorem lw_p1 : lw_okq (⟨"WantPlots$Reader", "takes", "(LWantPlots$World;I)Z"⟩, 3) := ⟨⟨by decide +kernel, by decide +kernel⟩, List.mem_of_getElem? (i := 38) (by decide +kernel), List.mem_of_getElem? (i := 314) (by decide +kernel), List.mem_of_getElem? (i := 315) (by decide +kernel)⟩
theorem lw_p2 : lw_okq (⟨"WantPlots$Reader", "takesKind", "(LWantPlots$World;I)Z"⟩, 3) := ⟨⟨by decide +kernel, by decide +kernel⟩, List.mem_of_getElem? (i := 38) (by decide +kernel), List.mem_of_getElem? (i := 318) (by decide +kernel), List.mem_of_getElem? (i := 319) (by decide +kernel)⟩
theorem lw_p3 : lw_okq (⟨"WantPlots$Reader", "takesSign", "(I)Z"⟩, 3) := ⟨⟨by decide +kernel, by decide +kernel⟩, List.mem_of_getElem? (i := 38) (by decide +kernel), List.mem_of_getElem? (i := 326) (by decide +kernel), List.mem_of_getElem? (i := 327) (by decide +kernel)⟩
theorem lw_p4 : lw_okq (⟨"WantPlots$Reader", "takesGoal", "(LWantPlots$World;I)Z"⟩, 3) := ⟨⟨by decide +kernel, by decide +kernel⟩, List.mem_of_getElem? (i := 38) (by decide +kernel), List.mem_of_getElem? (i := 330) (by decide +kernel), List.mem_of_getElem? (i := 331) (by decide +kernel)⟩
theorem lw_p5 : lw_okq (⟨"WantPlots$Reader", "takesAfterGoal", "(LWantPlots$World;I)Z"⟩, 3) := ⟨⟨by decide +kernel, by decide +kernel⟩, List.mem_of_getElem? (i := 38) (by decide +kernel), List.mem_of_getElem? (i := 337) (by decide +kernel), List.mem_of_getElem? (i := 338) (by decide +kernel)⟩
theorem lw_p6 : lw_okq (⟨"WantPlots$Reader", "takesFirstFact", "(LWantPlots$World;I)Z"⟩, 3) := ⟨⟨by decide +kernel, by decide +kernel⟩, List.mem_of_getElem? (i := 38) (by decide +kernel), List.mem_of_getElem? (i := 341) (by decide +kernel), List.mem_of_getElem? (i := 342) (by decide +kernel)⟩
theorem lw_p7 : lw_okq (⟨"WantPlots$Reader", "isNext", "(I)Z"⟩, 3) := ⟨⟨by decide +kernel, by decide +kernel⟩, List.mem_of_getElem? (i := 38) (by decide +kernel), List.mem_of_getElem? (i := 345) (by decide +kernel), List.mem_of_getElem? (i := 346) (by decide +kernel)⟩
theorem lw_p8 : lw_okq (⟨"WantPlots$Reader", "takesOwner", "(LWantPlots$World;I)Z"⟩, 3) := ⟨⟨by decide +kernel, by decide +kernel⟩, List.mem_of_getElem? (i := 38) (by decide +kernel), List.mem_of_getElem? (i := 349) (by decide +kernel), List.mem_of_getElem? (i := 350) (by decide +kernel)⟩
theorem lw_p9 : lw_okq (⟨"WantPlots$Reader", "takesInAct", "(LWantPlots$World;I)Z"⟩, 3) := ⟨⟨by decide +kernel, by decide +kernel⟩, List.mem_of_getElem? (i := 38) (by decide +kernel), List.mem_of_getElem? (i := 357) (by decide +kernel), List.mem_of_getElem? (i := 358) (by decide +kernel)⟩
theorem lw_p10 : lw_okq (⟨"WantPlots$Reader", "takesInNeeds", "(LWantPlots$World;II)Z"⟩, 3) := ⟨⟨by decide +kernel, by decide +kernel⟩, List.mem_of_getElem? (i := 38) (by decide +kernel), List.mem_of_getElem? (i := 361) (by decide +kernel), List.mem_of_getElem? (i := 362) (by decide +kernel)⟩
theorem lw_p11 : lw_okq (⟨"WantPlots$Reader", "takesFact", "([IIII)Z"⟩, 3) := ⟨⟨by decide +kernel, by decide +kernel⟩, List.mem_of_getElem? (i := 38) (by decide +kernel), List.mem_of_getElem? (i := 365) (by decide +kernel), List.mem_of_getElem? (i := 366) (by decide +kernel)⟩
theorem lw_p12 : lw_okq (⟨"WantPlots$Reader", "takesInMakes", "(LWantPlots$World;II)Z"⟩, 3) := ⟨⟨by decide +kernel, by decide +kernel⟩, List.mem_of_getElem? (i := 38) (by decide +kernel), List.mem_of_getElem? (i := 372) (by decide +kernel), List.mem_of_getElem? (i := 373) (by decide +kernel)⟩
theorem lw_p13 : lw_okq (⟨"WantPlots", "passTurn", "()V"⟩, 12) := ⟨⟨by decide +kernel, by decide +kernel⟩, List.mem_of_getElem? (i := 12) (by decide +kernel), List.mem_of_getElem? (i := 393) (by decide +kernel), List.mem_of_getElem? (i := 394) (by decide +kernel)⟩
theorem lw_p14 : lw_okq (⟨"WantPlots", "choice", "(II)I"⟩, 12) := ⟨⟨by decide +kernel, by decide +kernel⟩, List.mem_of_getElem? (i := 12) (by decide +kernel), List.mem_of_getElem? (i := 397) (by decide +kernel), List.mem_of_getElem? (i := 398) (by decide +kernel)⟩
theorem lw_p15 : lw_okq (⟨"WantPlots", "isPerson", "(I)Z"⟩, 12) := ⟨⟨by decide +kernel, by decide +kernel⟩, List.mem_of_getElem? (i := 12) (by decide +kernel), List.mem_of_getElem? (i := 401) (by decide +kernel), List.mem_of_getElem? (i := 402) (by decide +kernel)⟩
def lw_privs_1 : List (MethodName × Nat) := [(⟨"WantPlots$Reader", "moveTo", "(I)Z"⟩, 3), (⟨"WantPlots$Reader", "takes", "(LWantPlots$World;I)Z"⟩, 3), (⟨"WantPlots$Reader", "takesKind", "(LWantPlots$World;I)Z"⟩, 3), (⟨"WantPlots$Reader", "takesSign", "(I)Z"⟩, 3), (⟨"WantPlots$Reader", "takesGoal", "(LWantPlots$World;I)Z"⟩, 3), (⟨"WantPlots$Reader", "takesAfterGoal", "(LWantPlots$World;I)Z"⟩, 3), (⟨"WantPlots$Reader", "takesFirstFact", "(LWantPlots$World;I)Z"⟩, 3), (⟨"WantPlots$Reader", "isNext", "(I)Z"⟩, 3), (⟨"WantPlots$Reader", "takesOwner", "(LWantPlots$World;I)Z"⟩, 3), (⟨"WantPlots$Reader", "takesInAct", "(LWantPlots$World;I)Z"⟩, 3), (⟨"WantPlots$Reader", "takesInNeeds", "(LWantPlots$World;II)Z"⟩, 3), (⟨"WantPlots$Reader", "takesFact", "([IIII)Z"⟩, 3), (⟨"WantPlots$Reader", "takesInMakes", "(LWantPlots$World;II)Z"⟩, 3), (⟨"WantPlots", "passTurn", "()V"⟩, 12), (⟨"WantPlots", "choice", "(II)I"⟩, 12), (⟨"WantPlots", "isPerson", "(I)Z"⟩, 12)]
theorem lw_r1 : ∀ q ∈ lw_privs_1, lw_okq q := List.forall_mem_cons.mpr ⟨lw_p0, List.forall_mem_cons.mpr ⟨lw_p1, List.forall_mem_cons.mpr ⟨lw_p2, List.forall_mem_cons.mpr ⟨lw_p3, List.forall_mem_cons.mpr ⟨lw_p4, List.forall_mem_cons.mpr ⟨lw_p5, List.forall_mem_cons.mpr ⟨lw_p6, List.forall_mem_cons.mpr ⟨lw_p7, List.forall_mem_cons.mpr ⟨lw_p8, List.forall_mem_cons.mpr ⟨lw_p9, List.forall_mem_cons.mpr ⟨lw_p10, List.forall_mem_cons.mpr ⟨lw_p11, List.forall_mem_cons.mpr ⟨lw_p12, List.forall_mem_cons.mpr ⟨lw_p13, List.forall_mem_cons.mpr ⟨lw_p14, List.forall_mem_cons.mpr ⟨lw_p15, fun _ h => absurd h List.not_mem_nil⟩⟩⟩⟩⟩⟩⟩⟩⟩⟩⟩⟩⟩⟩⟩⟩
theorem lw_p16 : lw_okq (⟨"WantPlots", "isSatisfied", "(I)Z"⟩, 12) := ⟨⟨by decide +kernel, by decide +kernel⟩, List.mem_of_getElem? (i := 12) (by decide +kernel), List.mem_of_getElem? (i := 405) (by decide +kernel), List.mem_of_getElem? (i := 406) (by decide +kernel)⟩
theorem lw_p17 : lw_okq (⟨"WantPlots", "seekPlan", "(I)V"⟩, 12) := ⟨⟨by decide +kernel, by decide +kernel⟩, List.mem_of_getElem? (i := 12) (by decide +kernel), List.mem_of_getElem? (i := 412) (by decide +kernel), List.mem_of_getElem? (i := 413) (by decide +kernel)⟩
theorem lw_p18 : lw_okq (⟨"WantPlots", "repertoire", "(I)I"⟩, 12) := ⟨⟨by decide +kernel, by decide +kernel⟩, List.mem_of_getElem? (i := 12) (by decide +kernel), List.mem_of_getElem? (i := 416) (by decide +kernel), List.mem_of_getElem? (i := 417) (by decide +kernel)⟩
theorem lw_p19 : lw_okq (⟨"WantPlots", "seekFoil", "(II)V"⟩, 12) := ⟨⟨by decide +kernel, by decide +kernel⟩, List.mem_of_getElem? (i := 12) (by decide +kernel), List.mem_of_getElem? (i := 441) (by decide +kernel), List.mem_of_getElem? (i := 442) (by decide +kernel)⟩
theorem lw_p20 : lw_okq (⟨"WantPlots", "isAct", "(I)Z"⟩, 12) := ⟨⟨by decide +kernel, by decide +kernel⟩, List.mem_of_getElem? (i := 12) (by decide +kernel), List.mem_of_getElem? (i := 452) (by decide +kernel), List.mem_of_getElem? (i := 453) (by decide +kernel)⟩
theorem lw_p21 : lw_okq (⟨"WantPlots$Story", "closeStep", "()V"⟩, 16) := ⟨⟨by decide +kernel, by decide +kernel⟩, List.mem_of_getElem? (i := 54) (by decide +kernel), List.mem_of_getElem? (i := 460) (by decide +kernel), List.mem_of_getElem? (i := 461) (by decide +kernel)⟩
theorem lw_p22 : lw_okq (⟨"WantPlots$Story", "linkBack", "(I)V"⟩, 16) := ⟨⟨by decide +kernel, by decide +kernel⟩, List.mem_of_getElem? (i := 54) (by decide +kernel), List.mem_of_getElem? (i := 465) (by decide +kernel), List.mem_of_getElem? (i := 466) (by decide +kernel)⟩
theorem lw_p23 : lw_okq (⟨"WantPlots$Story", "sortIntoThread", "(I)V"⟩, 16) := ⟨⟨by decide +kernel, by decide +kernel⟩, List.mem_of_getElem? (i := 54) (by decide +kernel), List.mem_of_getElem? (i := 469) (by decide +kernel), List.mem_of_getElem? (i := 470) (by decide +kernel)⟩
theorem lw_p24 : lw_okq (⟨"WantPlots$Story", "joinThreads", "(III)V"⟩, 16) := ⟨⟨by decide +kernel, by decide +kernel⟩, List.mem_of_getElem? (i := 54) (by decide +kernel), List.mem_of_getElem? (i := 474) (by decide +kernel), List.mem_of_getElem? (i := 475) (by decide +kernel)⟩
theorem lw_p25 : lw_okq (⟨"WantPlots", "canBeDone", "(I)Z"⟩, 12) := ⟨⟨by decide +kernel, by decide +kernel⟩, List.mem_of_getElem? (i := 12) (by decide +kernel), List.mem_of_getElem? (i := 496) (by decide +kernel), List.mem_of_getElem? (i := 497) (by decide +kernel)⟩
theorem lw_p26 : lw_okq (⟨"WantPlots", "stepsOf", "(I)I"⟩, 12) := ⟨⟨by decide +kernel, by decide +kernel⟩, List.mem_of_getElem? (i := 12) (by decide +kernel), List.mem_of_getElem? (i := 521) (by decide +kernel), List.mem_of_getElem? (i := 522) (by decide +kernel)⟩
theorem lw_p27 : lw_okq (⟨"WantPlots", "finalTrue", "()I"⟩, 12) := ⟨⟨by decide +kernel, by decide +kernel⟩, List.mem_of_getElem? (i := 12) (by decide +kernel), List.mem_of_getElem? (i := 557) (by decide +kernel), List.mem_of_getElem? (i := 558) (by decide +kernel)⟩
theorem lw_p28 : lw_okq (⟨"WantPlots$World", "factsOf", "([II)I"⟩, 12) := ⟨⟨by decide +kernel, by decide +kernel⟩, List.mem_of_getElem? (i := 170) (by decide +kernel), List.mem_of_getElem? (i := 565) (by decide +kernel), List.mem_of_getElem? (i := 566) (by decide +kernel)⟩
theorem lw_p29 : lw_okq (⟨"WantPlots", "finalFalse", "()I"⟩, 12) := ⟨⟨by decide +kernel, by decide +kernel⟩, List.mem_of_getElem? (i := 12) (by decide +kernel), List.mem_of_getElem? (i := 570) (by decide +kernel), List.mem_of_getElem? (i := 571) (by decide +kernel)⟩
theorem lw_p30 : lw_okq (⟨"WantPlots$Story", "isValid", "(III)Z"⟩, 16) := ⟨⟨by decide +kernel, by decide +kernel⟩, List.mem_of_getElem? (i := 54) (by decide +kernel), List.mem_of_getElem? (i := 582) (by decide +kernel), List.mem_of_getElem? (i := 583) (by decide +kernel)⟩
theorem lw_p31 : lw_okq (⟨"WantPlots$Story", "firstDull", "(III)I"⟩, 16) := ⟨⟨by decide +kernel, by decide +kernel⟩, List.mem_of_getElem? (i := 54) (by decide +kernel), List.mem_of_getElem? (i := 602) (by decide +kernel), List.mem_of_getElem? (i := 603) (by decide +kernel)⟩
def lw_privs_2 : List (MethodName × Nat) := [(⟨"WantPlots", "isSatisfied", "(I)Z"⟩, 12), (⟨"WantPlots", "seekPlan", "(I)V"⟩, 12), (⟨"WantPlots", "repertoire", "(I)I"⟩, 12), (⟨"WantPlots", "seekFoil", "(II)V"⟩, 12), (⟨"WantPlots", "isAct", "(I)Z"⟩, 12), (⟨"WantPlots$Story", "closeStep", "()V"⟩, 16), (⟨"WantPlots$Story", "linkBack", "(I)V"⟩, 16), (⟨"WantPlots$Story", "sortIntoThread", "(I)V"⟩, 16), (⟨"WantPlots$Story", "joinThreads", "(III)V"⟩, 16), (⟨"WantPlots", "canBeDone", "(I)Z"⟩, 12), (⟨"WantPlots", "stepsOf", "(I)I"⟩, 12), (⟨"WantPlots", "finalTrue", "()I"⟩, 12), (⟨"WantPlots$World", "factsOf", "([II)I"⟩, 12), (⟨"WantPlots", "finalFalse", "()I"⟩, 12), (⟨"WantPlots$Story", "isValid", "(III)Z"⟩, 16), (⟨"WantPlots$Story", "firstDull", "(III)I"⟩, 16)]
theorem lw_r2 : ∀ q ∈ lw_privs_2, lw_okq q := List.forall_mem_cons.mpr ⟨lw_p16, List.forall_mem_cons.mpr ⟨lw_p17, List.forall_mem_cons.mpr ⟨lw_p18, List.forall_mem_cons.mpr ⟨lw_p19, List.forall_mem_cons.mpr ⟨lw_p20, List.forall_mem_cons.mpr ⟨lw_p21, List.forall_mem_cons.mpr ⟨lw_p22, List.forall_mem_cons.mpr ⟨lw_p23, List.forall_mem_cons.mpr ⟨lw_p24, List.forall_mem_cons.mpr ⟨lw_p25, List.forall_mem_cons.mpr ⟨lw_p26, List.forall_mem_cons.mpr ⟨lw_p27, List.forall_mem_cons.mpr ⟨lw_p28, List.forall_mem_cons.mpr ⟨lw_p29, List.forall_mem_cons.mpr ⟨lw_p30, List.forall_mem_cons.mpr ⟨lw_p31, fun _ h => absurd h List.not_mem_nil⟩⟩⟩⟩⟩⟩⟩⟩⟩⟩⟩⟩⟩⟩⟩⟩
theorem lw_p32 : lw_okq (⟨"WantPlots", "seekTogether", "()V"⟩, 12) := ⟨⟨by decide +kernel, by decide +kernel⟩, List.mem_of_getElem? (i := 12) (by decide +kernel), List.mem_of_getElem? (i := 625) (by decide +kernel), List.mem_of_getElem? (i := 626) (by decide +kernel)⟩
theorem lw_p33 : lw_okq (⟨"WantPlots$Counter", "lengthen", "(LWantPlots$World;)V"⟩, 2) := ⟨⟨by decide +kernel, by decide +kernel⟩, List.mem_of_getElem? (i := 157) (by decide +kernel), List.mem_of_getElem? (i := 648) (by decide +kernel), List.mem_of_getElem? (i := 649) (by decide +kernel)⟩
theorem lw_p34 : lw_okq (⟨"WantPlots$Counter", "lengthenFrom", "(LWantPlots$World;I)V"⟩, 2) := ⟨⟨by decide +kernel, by decide +kernel⟩, List.mem_of_getElem? (i := 157) (by decide +kernel), List.mem_of_getElem? (i := 652) (by decide +kernel), List.mem_of_getElem? (i := 653) (by decide +kernel)⟩
theorem lw_p35 : lw_okq (⟨"WantPlots", "withPath", "(J)J"⟩, 12) := ⟨⟨by decide +kernel, by decide +kernel⟩, List.mem_of_getElem? (i := 12) (by decide +kernel), List.mem_of_getElem? (i := 674) (by decide +kernel), List.mem_of_getElem? (i := 675) (by decide +kernel)⟩
theorem lw_p36 : lw_okq (⟨"WantPlots", "withActs", "(J)J"⟩, 12) := ⟨⟨by decide +kernel, by decide +kernel⟩, List.mem_of_getElem? (i := 12) (by decide +kernel), List.mem_of_getElem? (i := 678) (by decide +kernel), List.mem_of_getElem? (i := 679) (by decide +kernel)⟩
theorem lw_p37 : lw_okq (⟨"WantPlots", "withSteps", "(J)J"⟩, 12) := ⟨⟨by decide +kernel, by decide +kernel⟩, List.mem_of_getElem? (i := 12) (by decide +kernel), List.mem_of_getElem? (i := 683) (by decide +kernel), List.mem_of_getElem? (i := 684) (by decide +kernel)⟩
theorem lw_p38 : lw_okq (⟨"WantPlots", "withWays", "(J)J"⟩, 12) := ⟨⟨by decide +kernel, by decide +kernel⟩, List.mem_of_getElem? (i := 12) (by decide +kernel), List.mem_of_getElem? (i := 689) (by decide +kernel), List.mem_of_getElem? (i := 690) (by decide +kernel)⟩
theorem lw_p39 : lw_okq (⟨"WantPlotsModel", "read", "()I"⟩, 45) := ⟨⟨by decide +kernel, by decide +kernel⟩, List.mem_of_getElem? (i := 695) (by decide +kernel), List.mem_of_getElem? (i := 853) (by decide +kernel), List.mem_of_getElem? (i := 854) (by decide +kernel)⟩
theorem lw_p40 : lw_okq (⟨"WantPlotsModel", "takesLetter", "(I)Z"⟩, 45) := ⟨⟨by decide +kernel, by decide +kernel⟩, List.mem_of_getElem? (i := 695) (by decide +kernel), List.mem_of_getElem? (i := 857) (by decide +kernel), List.mem_of_getElem? (i := 858) (by decide +kernel)⟩
theorem lw_p41 : lw_okq (⟨"WantPlotsModel", "takesFirst", "(I)Z"⟩, 45) := ⟨⟨by decide +kernel, by decide +kernel⟩, List.mem_of_getElem? (i := 695) (by decide +kernel), List.mem_of_getElem? (i := 861) (by decide +kernel), List.mem_of_getElem? (i := 862) (by decide +kernel)⟩
theorem lw_p42 : lw_okq (⟨"WantPlotsModel", "goes", "(ZI)Z"⟩, 45) := ⟨⟨by decide +kernel, by decide +kernel⟩, List.mem_of_getElem? (i := 695) (by decide +kernel), List.mem_of_getElem? (i := 865) (by decide +kernel), List.mem_of_getElem? (i := 866) (by decide +kernel)⟩
theorem lw_p43 : lw_okq (⟨"WantPlotsModel", "takesWhose", "(I)Z"⟩, 45) := ⟨⟨by decide +kernel, by decide +kernel⟩, List.mem_of_getElem? (i := 695) (by decide +kernel), List.mem_of_getElem? (i := 875) (by decide +kernel), List.mem_of_getElem? (i := 876) (by decide +kernel)⟩
theorem lw_p44 : lw_okq (⟨"WantPlotsModel", "takesNeeds", "(I)Z"⟩, 45) := ⟨⟨by decide +kernel, by decide +kernel⟩, List.mem_of_getElem? (i := 695) (by decide +kernel), List.mem_of_getElem? (i := 879) (by decide +kernel), List.mem_of_getElem? (i := 880) (by decide +kernel)⟩
theorem lw_p45 : lw_okq (⟨"WantPlotsModel", "takesBars", "(I)Z"⟩, 45) := ⟨⟨by decide +kernel, by decide +kernel⟩, List.mem_of_getElem? (i := 695) (by decide +kernel), List.mem_of_getElem? (i := 883) (by decide +kernel), List.mem_of_getElem? (i := 884) (by decide +kernel)⟩
theorem lw_p46 : lw_okq (⟨"WantPlotsModel", "takesGives", "(I)Z"⟩, 45) := ⟨⟨by decide +kernel, by decide +kernel⟩, List.mem_of_getElem? (i := 695) (by decide +kernel), List.mem_of_getElem? (i := 887) (by decide +kernel), List.mem_of_getElem? (i := 888) (by decide +kernel)⟩
theorem lw_p47 : lw_okq (⟨"WantPlotsModel", "takesNext", "(I)Z"⟩, 45) := ⟨⟨by decide +kernel, by decide +kernel⟩, List.mem_of_getElem? (i := 695) (by decide +kernel), List.mem_of_getElem? (i := 891) (by decide +kernel), List.mem_of_getElem? (i := 892) (by decide +kernel)⟩
def lw_privs_3 : List (MethodName × Nat) := [(⟨"WantPlots", "seekTogether", "()V"⟩, 12), (⟨"WantPlots$Counter", "lengthen", "(LWantPlots$World;)V"⟩, 2), (⟨"WantPlots$Counter", "lengthenFrom", "(LWantPlots$World;I)V"⟩, 2), (⟨"WantPlots", "withPath", "(J)J"⟩, 12), (⟨"WantPlots", "withActs", "(J)J"⟩, 12), (⟨"WantPlots", "withSteps", "(J)J"⟩, 12), (⟨"WantPlots", "withWays", "(J)J"⟩, 12), (⟨"WantPlotsModel", "read", "()I"⟩, 45), (⟨"WantPlotsModel", "takesLetter", "(I)Z"⟩, 45), (⟨"WantPlotsModel", "takesFirst", "(I)Z"⟩, 45), (⟨"WantPlotsModel", "goes", "(ZI)Z"⟩, 45), (⟨"WantPlotsModel", "takesWhose", "(I)Z"⟩, 45), (⟨"WantPlotsModel", "takesNeeds", "(I)Z"⟩, 45), (⟨"WantPlotsModel", "takesBars", "(I)Z"⟩, 45), (⟨"WantPlotsModel", "takesGives", "(I)Z"⟩, 45), (⟨"WantPlotsModel", "takesNext", "(I)Z"⟩, 45)]
theorem lw_r3 : ∀ q ∈ lw_privs_3, lw_okq q := List.forall_mem_cons.mpr ⟨lw_p32, List.forall_mem_cons.mpr ⟨lw_p33, List.forall_mem_cons.mpr ⟨lw_p34, List.forall_mem_cons.mpr ⟨lw_p35, List.forall_mem_cons.mpr ⟨lw_p36, List.forall_mem_cons.mpr ⟨lw_p37, List.forall_mem_cons.mpr ⟨lw_p38, List.forall_mem_cons.mpr ⟨lw_p39, List.forall_mem_cons.mpr ⟨lw_p40, List.forall_mem_cons.mpr ⟨lw_p41, List.forall_mem_cons.mpr ⟨lw_p42, List.forall_mem_cons.mpr ⟨lw_p43, List.forall_mem_cons.mpr ⟨lw_p44, List.forall_mem_cons.mpr ⟨lw_p45, List.forall_mem_cons.mpr ⟨lw_p46, List.forall_mem_cons.mpr ⟨lw_p47, fun _ h => absurd h List.not_mem_nil⟩⟩⟩⟩⟩⟩⟩⟩⟩⟩⟩⟩⟩⟩⟩⟩
theorem lw_p48 : lw_okq (⟨"WantPlotsModel", "takesTakes", "(I)Z"⟩, 45) := ⟨⟨by decide +kernel, by decide +kernel⟩, List.mem_of_getElem? (i := 695) (by decide +kernel), List.mem_of_getElem? (i := 895) (by decide +kernel), List.mem_of_getElem? (i := 896) (by decide +kernel)⟩
theorem lw_p49 : lw_okq (⟨"WantPlotsModel", "takesPerson", "(I)Z"⟩, 45) := ⟨⟨by decide +kernel, by decide +kernel⟩, List.mem_of_getElem? (i := 695) (by decide +kernel), List.mem_of_getElem? (i := 899) (by decide +kernel), List.mem_of_getElem? (i := 900) (by decide +kernel)⟩
theorem lw_p50 : lw_okq (⟨"WantPlotsModel", "takesKind", "(I)Z"⟩, 45) := ⟨⟨by decide +kernel, by decide +kernel⟩, List.mem_of_getElem? (i := 695) (by decide +kernel), List.mem_of_getElem? (i := 903) (by decide +kernel), List.mem_of_getElem? (i := 904) (by decide +kernel)⟩
theorem lw_p51 : lw_okq (⟨"WantPlotsModel", "takesSign", "(I)Z"⟩, 45) := ⟨⟨by decide +kernel, by decide +kernel⟩, List.mem_of_getElem? (i := 695) (by decide +kernel), List.mem_of_getElem? (i := 907) (by decide +kernel), List.mem_of_getElem? (i := 908) (by decide +kernel)⟩
theorem lw_p52 : lw_okq (⟨"WantPlotsModel", "takesWant", "(I)Z"⟩, 45) := ⟨⟨by decide +kernel, by decide +kernel⟩, List.mem_of_getElem? (i := 695) (by decide +kernel), List.mem_of_getElem? (i := 911) (by decide +kernel), List.mem_of_getElem? (i := 912) (by decide +kernel)⟩
theorem lw_p53 : lw_okq (⟨"WantPlotsModel", "isWorld", "()Z"⟩, 45) := ⟨⟨by decide +kernel, by decide +kernel⟩, List.mem_of_getElem? (i := 695) (by decide +kernel), List.mem_of_getElem? (i := 923) (by decide +kernel), List.mem_of_getElem? (i := 924) (by decide +kernel)⟩
theorem lw_p54 : lw_okq (⟨"WantPlotsModel", "goNow", "(I)I"⟩, 45) := ⟨⟨by decide +kernel, by decide +kernel⟩, List.mem_of_getElem? (i := 695) (by decide +kernel), List.mem_of_getElem? (i := 927) (by decide +kernel), List.mem_of_getElem? (i := 928) (by decide +kernel)⟩
theorem lw_p55 : lw_okq (⟨"WantPlotsModel", "passTurn", "()V"⟩, 45) := ⟨⟨by decide +kernel, by decide +kernel⟩, List.mem_of_getElem? (i := 695) (by decide +kernel), List.mem_of_getElem? (i := 931) (by decide +kernel), List.mem_of_getElem? (i := 932) (by decide +kernel)⟩
theorem lw_p56 : lw_okq (⟨"WantPlotsModel", "wouldDo", "(II)I"⟩, 45) := ⟨⟨by decide +kernel, by decide +kernel⟩, List.mem_of_getElem? (i := 695) (by decide +kernel), List.mem_of_getElem? (i := 935) (by decide +kernel), List.mem_of_getElem? (i := 936) (by decide +kernel)⟩
theorem lw_p57 : lw_okq (⟨"WantPlotsModel", "isWanted", "(II)Z"⟩, 45) := ⟨⟨by decide +kernel, by decide +kernel⟩, List.mem_of_getElem? (i := 695) (by decide +kernel), List.mem_of_getElem? (i := 939) (by decide +kernel), List.mem_of_getElem? (i := 940) (by decide +kernel)⟩
theorem lw_p58 : lw_okq (⟨"WantPlotsModel", "foilFirst", "(I)I"⟩, 45) := ⟨⟨by decide +kernel, by decide +kernel⟩, List.mem_of_getElem? (i := 695) (by decide +kernel), List.mem_of_getElem? (i := 943) (by decide +kernel), List.mem_of_getElem? (i := 944) (by decide +kernel)⟩
theorem lw_p59 : lw_okq (⟨"WantPlotsModel", "layPlan", "(I)V"⟩, 45) := ⟨⟨by decide +kernel, by decide +kernel⟩, List.mem_of_getElem? (i := 695) (by decide +kernel), List.mem_of_getElem? (i := 947) (by decide +kernel), List.mem_of_getElem? (i := 948) (by decide +kernel)⟩
theorem lw_p60 : lw_okq (⟨"WantPlotsModel", "actsOf", "(I)I"⟩, 45) := ⟨⟨by decide +kernel, by decide +kernel⟩, List.mem_of_getElem? (i := 695) (by decide +kernel), List.mem_of_getElem? (i := 951) (by decide +kernel), List.mem_of_getElem? (i := 952) (by decide +kernel)⟩
theorem lw_p61 : lw_okq (⟨"WantPlotsModel", "timesDone", "(I)I"⟩, 45) := ⟨⟨by decide +kernel, by decide +kernel⟩, List.mem_of_getElem? (i := 695) (by decide +kernel), List.mem_of_getElem? (i := 955) (by decide +kernel), List.mem_of_getElem? (i := 956) (by decide +kernel)⟩
theorem lw_p62 : lw_okq (⟨"WantPlotsModel", "layFew", "(I)V"⟩, 45) := ⟨⟨by decide +kernel, by decide +kernel⟩, List.mem_of_getElem? (i := 695) (by decide +kernel), List.mem_of_getElem? (i := 959) (by decide +kernel), List.mem_of_getElem? (i := 960) (by decide +kernel)⟩
theorem lw_p63 : lw_okq (⟨"WantPlotsModel", "lessFrom", "(I)I"⟩, 45) := ⟨⟨by decide +kernel, by decide +kernel⟩, List.mem_of_getElem? (i := 695) (by decide +kernel), List.mem_of_getElem? (i := 963) (by decide +kernel), List.mem_of_getElem? (i := 964) (by decide +kernel)⟩
def lw_privs_4 : List (MethodName × Nat) := [(⟨"WantPlotsModel", "takesTakes", "(I)Z"⟩, 45), (⟨"WantPlotsModel", "takesPerson", "(I)Z"⟩, 45), (⟨"WantPlotsModel", "takesKind", "(I)Z"⟩, 45), (⟨"WantPlotsModel", "takesSign", "(I)Z"⟩, 45), (⟨"WantPlotsModel", "takesWant", "(I)Z"⟩, 45), (⟨"WantPlotsModel", "isWorld", "()Z"⟩, 45), (⟨"WantPlotsModel", "goNow", "(I)I"⟩, 45), (⟨"WantPlotsModel", "passTurn", "()V"⟩, 45), (⟨"WantPlotsModel", "wouldDo", "(II)I"⟩, 45), (⟨"WantPlotsModel", "isWanted", "(II)Z"⟩, 45), (⟨"WantPlotsModel", "foilFirst", "(I)I"⟩, 45), (⟨"WantPlotsModel", "layPlan", "(I)V"⟩, 45), (⟨"WantPlotsModel", "actsOf", "(I)I"⟩, 45), (⟨"WantPlotsModel", "timesDone", "(I)I"⟩, 45), (⟨"WantPlotsModel", "layFew", "(I)V"⟩, 45), (⟨"WantPlotsModel", "lessFrom", "(I)I"⟩, 45)]
theorem lw_r4 : ∀ q ∈ lw_privs_4, lw_okq q := List.forall_mem_cons.mpr ⟨lw_p48, List.forall_mem_cons.mpr ⟨lw_p49, List.forall_mem_cons.mpr ⟨lw_p50, List.forall_mem_cons.mpr ⟨lw_p51, List.forall_mem_cons.mpr ⟨lw_p52, List.forall_mem_cons.mpr ⟨lw_p53, List.forall_mem_cons.mpr ⟨lw_p54, List.forall_mem_cons.mpr ⟨lw_p55, List.forall_mem_cons.mpr ⟨lw_p56, List.forall_mem_cons.mpr ⟨lw_p57, List.forall_mem_cons.mpr ⟨lw_p58, List.forall_mem_cons.mpr ⟨lw_p59, List.forall_mem_cons.mpr ⟨lw_p60, List.forall_mem_cons.mpr ⟨lw_p61, List.forall_mem_cons.mpr ⟨lw_p62, List.forall_mem_cons.mpr ⟨lw_p63, fun _ h => absurd h List.not_mem_nil⟩⟩⟩⟩⟩⟩⟩⟩⟩⟩⟩⟩⟩⟩⟩⟩
theorem lw_p64 : lw_okq (⟨"WantPlotsModel", "canDo", "(II)Z"⟩, 45) := ⟨⟨by decide +kernel, by decide +kernel⟩, List.mem_of_getElem? (i := 695) (by decide +kernel), List.mem_of_getElem? (i := 967) (by decide +kernel), List.mem_of_getElem? (i := 968) (by decide +kernel)⟩
theorem lw_p65 : lw_okq (⟨"WantPlotsModel", "behind", "(II)I"⟩, 45) := ⟨⟨by decide +kernel, by decide +kernel⟩, List.mem_of_getElem? (i := 695) (by decide +kernel), List.mem_of_getElem? (i := 971) (by decide +kernel), List.mem_of_getElem? (i := 972) (by decide +kernel)⟩
theorem lw_p66 : lw_okq (⟨"WantPlotsModel", "laidMany", "()I"⟩, 45) := ⟨⟨by decide +kernel, by decide +kernel⟩, List.mem_of_getElem? (i := 695) (by decide +kernel), List.mem_of_getElem? (i := 975) (by decide +kernel), List.mem_of_getElem? (i := 976) (by decide +kernel)⟩
theorem lw_p67 : lw_okq (⟨"WantPlotsModel", "layFoil", "(II)V"⟩, 45) := ⟨⟨by decide +kernel, by decide +kernel⟩, List.mem_of_getElem? (i := 695) (by decide +kernel), List.mem_of_getElem? (i := 979) (by decide +kernel), List.mem_of_getElem? (i := 980) (by decide +kernel)⟩
theorem lw_p68 : lw_okq (⟨"WantPlotsModel", "laidAct", "(I)I"⟩, 45) := ⟨⟨by decide +kernel, by decide +kernel⟩, List.mem_of_getElem? (i := 695) (by decide +kernel), List.mem_of_getElem? (i := 983) (by decide +kernel), List.mem_of_getElem? (i := 984) (by decide +kernel)⟩
theorem lw_p69 : lw_okq (⟨"WantPlotsModel", "nextAct", "(I)I"⟩, 45) := ⟨⟨by decide +kernel, by decide +kernel⟩, List.mem_of_getElem? (i := 695) (by decide +kernel), List.mem_of_getElem? (i := 987) (by decide +kernel), List.mem_of_getElem? (i := 988) (by decide +kernel)⟩
theorem lw_p70 : lw_okq (⟨"WantPlotsModel", "addStep", "(III)V"⟩, 45) := ⟨⟨by decide +kernel, by decide +kernel⟩, List.mem_of_getElem? (i := 695) (by decide +kernel), List.mem_of_getElem? (i := 991) (by decide +kernel), List.mem_of_getElem? (i := 992) (by decide +kernel)⟩
theorem lw_p71 : lw_okq (⟨"WantPlotsModel", "isAct", "(I)Z"⟩, 45) := ⟨⟨by decide +kernel, by decide +kernel⟩, List.mem_of_getElem? (i := 695) (by decide +kernel), List.mem_of_getElem? (i := 1003) (by decide +kernel), List.mem_of_getElem? (i := 1004) (by decide +kernel)⟩
theorem lw_p72 : lw_okq (⟨"WantPlotsModel", "aboutNow", "(I)I"⟩, 45) := ⟨⟨by decide +kernel, by decide +kernel⟩, List.mem_of_getElem? (i := 695) (by decide +kernel), List.mem_of_getElem? (i := 1015) (by decide +kernel), List.mem_of_getElem? (i := 1016) (by decide +kernel)⟩
theorem lw_p73 : lw_okq (⟨"WantPlotsModel", "wantsIn", "(I)I"⟩, 45) := ⟨⟨by decide +kernel, by decide +kernel⟩, List.mem_of_getElem? (i := 695) (by decide +kernel), List.mem_of_getElem? (i := 1019) (by decide +kernel), List.mem_of_getElem? (i := 1020) (by decide +kernel)⟩
theorem lw_p74 : lw_okq (⟨"WantPlotsModel", "isOne", "(I)Z"⟩, 45) := ⟨⟨by decide +kernel, by decide +kernel⟩, List.mem_of_getElem? (i := 695) (by decide +kernel), List.mem_of_getElem? (i := 1027) (by decide +kernel), List.mem_of_getElem? (i := 1028) (by decide +kernel)⟩
theorem lw_p75 : lw_okq (⟨"WantPlotsModel", "oneNow", "(II)I"⟩, 45) := ⟨⟨by decide +kernel, by decide +kernel⟩, List.mem_of_getElem? (i := 695) (by decide +kernel), List.mem_of_getElem? (i := 1031) (by decide +kernel), List.mem_of_getElem? (i := 1032) (by decide +kernel)⟩
theorem lw_p76 : lw_okq (⟨"WantPlotsModel", "stepsBy", "(I)I"⟩, 45) := ⟨⟨by decide +kernel, by decide +kernel⟩, List.mem_of_getElem? (i := 695) (by decide +kernel), List.mem_of_getElem? (i := 1035) (by decide +kernel), List.mem_of_getElem? (i := 1036) (by decide +kernel)⟩
theorem lw_p77 : lw_okq (⟨"WantPlotsModel", "planNow", "(II)I"⟩, 45) := ⟨⟨by decide +kernel, by decide +kernel⟩, List.mem_of_getElem? (i := 695) (by decide +kernel), List.mem_of_getElem? (i := 1039) (by decide +kernel), List.mem_of_getElem? (i := 1040) (by decide +kernel)⟩
theorem lw_p78 : lw_okq (⟨"WantPlotsModel", "foilNow", "(III)I"⟩, 45) := ⟨⟨by decide +kernel, by decide +kernel⟩, List.mem_of_getElem? (i := 695) (by decide +kernel), List.mem_of_getElem? (i := 1051) (by decide +kernel), List.mem_of_getElem? (i := 1052) (by decide +kernel)⟩
theorem lw_p79 : lw_okq (⟨"WantPlotsModel", "deedNow", "(II)I"⟩, 45) := ⟨⟨by decide +kernel, by decide +kernel⟩, List.mem_of_getElem? (i := 695) (by decide +kernel), List.mem_of_getElem? (i := 1059) (by decide +kernel), List.mem_of_getElem? (i := 1060) (by decide +kernel)⟩
def lw_privs_5 : List (MethodName × Nat) := [(⟨"WantPlotsModel", "canDo", "(II)Z"⟩, 45), (⟨"WantPlotsModel", "behind", "(II)I"⟩, 45), (⟨"WantPlotsModel", "laidMany", "()I"⟩, 45), (⟨"WantPlotsModel", "layFoil", "(II)V"⟩, 45), (⟨"WantPlotsModel", "laidAct", "(I)I"⟩, 45), (⟨"WantPlotsModel", "nextAct", "(I)I"⟩, 45), (⟨"WantPlotsModel", "addStep", "(III)V"⟩, 45), (⟨"WantPlotsModel", "isAct", "(I)Z"⟩, 45), (⟨"WantPlotsModel", "aboutNow", "(I)I"⟩, 45), (⟨"WantPlotsModel", "wantsIn", "(I)I"⟩, 45), (⟨"WantPlotsModel", "isOne", "(I)Z"⟩, 45), (⟨"WantPlotsModel", "oneNow", "(II)I"⟩, 45), (⟨"WantPlotsModel", "stepsBy", "(I)I"⟩, 45), (⟨"WantPlotsModel", "planNow", "(II)I"⟩, 45), (⟨"WantPlotsModel", "foilNow", "(III)I"⟩, 45), (⟨"WantPlotsModel", "deedNow", "(II)I"⟩, 45)]
theorem lw_r5 : ∀ q ∈ lw_privs_5, lw_okq q := List.forall_mem_cons.mpr ⟨lw_p64, List.forall_mem_cons.mpr ⟨lw_p65, List.forall_mem_cons.mpr ⟨lw_p66, List.forall_mem_cons.mpr ⟨lw_p67, List.forall_mem_cons.mpr ⟨lw_p68, List.forall_mem_cons.mpr ⟨lw_p69, List.forall_mem_cons.mpr ⟨lw_p70, List.forall_mem_cons.mpr ⟨lw_p71, List.forall_mem_cons.mpr ⟨lw_p72, List.forall_mem_cons.mpr ⟨lw_p73, List.forall_mem_cons.mpr ⟨lw_p74, List.forall_mem_cons.mpr ⟨lw_p75, List.forall_mem_cons.mpr ⟨lw_p76, List.forall_mem_cons.mpr ⟨lw_p77, List.forall_mem_cons.mpr ⟨lw_p78, List.forall_mem_cons.mpr ⟨lw_p79, fun _ h => absurd h List.not_mem_nil⟩⟩⟩⟩⟩⟩⟩⟩⟩⟩⟩⟩⟩⟩⟩⟩
theorem lw_p80 : lw_okq (⟨"WantPlotsModel", "stepTold", "(II)I"⟩, 45) := ⟨⟨by decide +kernel, by decide +kernel⟩, List.mem_of_getElem? (i := 695) (by decide +kernel), List.mem_of_getElem? (i := 1067) (by decide +kernel), List.mem_of_getElem? (i := 1068) (by decide +kernel)⟩
theorem lw_p81 : lw_okq (⟨"WantPlotsModel", "layLinks", "()V"⟩, 45) := ⟨⟨by decide +kernel, by decide +kernel⟩, List.mem_of_getElem? (i := 695) (by decide +kernel), List.mem_of_getElem? (i := 1071) (by decide +kernel), List.mem_of_getElem? (i := 1072) (by decide +kernel)⟩
theorem lw_p82 : lw_okq (⟨"WantPlotsModel", "linksOf", "(I)I"⟩, 45) := ⟨⟨by decide +kernel, by decide +kernel⟩, List.mem_of_getElem? (i := 695) (by decide +kernel), List.mem_of_getElem? (i := 1075) (by decide +kernel), List.mem_of_getElem? (i := 1076) (by decide +kernel)⟩
theorem lw_p83 : lw_okq (⟨"WantPlotsModel", "latest", "(IIZ)I"⟩, 45) := ⟨⟨by decide +kernel, by decide +kernel⟩, List.mem_of_getElem? (i := 695) (by decide +kernel), List.mem_of_getElem? (i := 1079) (by decide +kernel), List.mem_of_getElem? (i := 1080) (by decide +kernel)⟩
theorem lw_p84 : lw_okq (⟨"WantPlotsModel", "joins", "(II)Z"⟩, 45) := ⟨⟨by decide +kernel, by decide +kernel⟩, List.mem_of_getElem? (i := 695) (by decide +kernel), List.mem_of_getElem? (i := 1083) (by decide +kernel), List.mem_of_getElem? (i := 1084) (by decide +kernel)⟩
theorem lw_p85 : lw_okq (⟨"WantPlotsModel", "stepNow", "(II)I"⟩, 45) := ⟨⟨by decide +kernel, by decide +kernel⟩, List.mem_of_getElem? (i := 695) (by decide +kernel), List.mem_of_getElem? (i := 1087) (by decide +kernel), List.mem_of_getElem? (i := 1088) (by decide +kernel)⟩
theorem lw_p86 : lw_okq (⟨"WantPlotsModel", "threadsAhead", "(I)I"⟩, 45) := ⟨⟨by decide +kernel, by decide +kernel⟩, List.mem_of_getElem? (i := 695) (by decide +kernel), List.mem_of_getElem? (i := 1094) (by decide +kernel), List.mem_of_getElem? (i := 1095) (by decide +kernel)⟩
theorem lw_p87 : lw_okq (⟨"WantPlotsModel", "allSteps", "()I"⟩, 45) := ⟨⟨by decide +kernel, by decide +kernel⟩, List.mem_of_getElem? (i := 695) (by decide +kernel), List.mem_of_getElem? (i := 1098) (by decide +kernel), List.mem_of_getElem? (i := 1099) (by decide +kernel)⟩
theorem lw_p88 : lw_okq (⟨"WantPlotsModel", "isDull", "(II)Z"⟩, 45) := ⟨⟨by decide +kernel, by decide +kernel⟩, List.mem_of_getElem? (i := 695) (by decide +kernel), List.mem_of_getElem? (i := 1102) (by decide +kernel), List.mem_of_getElem? (i := 1103) (by decide +kernel)⟩
theorem lw_p89 : lw_okq (⟨"WantPlotsModel", "storyNow", "(I)I"⟩, 45) := ⟨⟨by decide +kernel, by decide +kernel⟩, List.mem_of_getElem? (i := 695) (by decide +kernel), List.mem_of_getElem? (i := 1110) (by decide +kernel), List.mem_of_getElem? (i := 1111) (by decide +kernel)⟩
theorem lw_p90 : lw_okq (⟨"WantPlotsModel", "dullMany", "()I"⟩, 45) := ⟨⟨by decide +kernel, by decide +kernel⟩, List.mem_of_getElem? (i := 695) (by decide +kernel), List.mem_of_getElem? (i := 1114) (by decide +kernel), List.mem_of_getElem? (i := 1115) (by decide +kernel)⟩
theorem lw_p91 : lw_okq (⟨"WantPlotsModel", "cut", "()I"⟩, 45) := ⟨⟨by decide +kernel, by decide +kernel⟩, List.mem_of_getElem? (i := 695) (by decide +kernel), List.mem_of_getElem? (i := 1118) (by decide +kernel), List.mem_of_getElem? (i := 1119) (by decide +kernel)⟩
theorem lw_p92 : lw_okq (⟨"WantPlotsModel", "firstDull", "(I)I"⟩, 45) := ⟨⟨by decide +kernel, by decide +kernel⟩, List.mem_of_getElem? (i := 695) (by decide +kernel), List.mem_of_getElem? (i := 1122) (by decide +kernel), List.mem_of_getElem? (i := 1123) (by decide +kernel)⟩
theorem lw_p93 : lw_okq (⟨"WantPlotsModel", "linksMany", "()I"⟩, 45) := ⟨⟨by decide +kernel, by decide +kernel⟩, List.mem_of_getElem? (i := 695) (by decide +kernel), List.mem_of_getElem? (i := 1129) (by decide +kernel), List.mem_of_getElem? (i := 1130) (by decide +kernel)⟩
theorem lw_p94 : lw_okq (⟨"WantPlotsModel", "farthest", "()I"⟩, 45) := ⟨⟨by decide +kernel, by decide +kernel⟩, List.mem_of_getElem? (i := 695) (by decide +kernel), List.mem_of_getElem? (i := 1133) (by decide +kernel), List.mem_of_getElem? (i := 1134) (by decide +kernel)⟩
theorem lw_p95 : lw_okq (⟨"WantPlotsModel", "togetherNow", "(I)I"⟩, 45) := ⟨⟨by decide +kernel, by decide +kernel⟩, List.mem_of_getElem? (i := 695) (by decide +kernel), List.mem_of_getElem? (i := 1141) (by decide +kernel), List.mem_of_getElem? (i := 1142) (by decide +kernel)⟩
def lw_privs_6 : List (MethodName × Nat) := [(⟨"WantPlotsModel", "stepTold", "(II)I"⟩, 45), (⟨"WantPlotsModel", "layLinks", "()V"⟩, 45), (⟨"WantPlotsModel", "linksOf", "(I)I"⟩, 45), (⟨"WantPlotsModel", "latest", "(IIZ)I"⟩, 45), (⟨"WantPlotsModel", "joins", "(II)Z"⟩, 45), (⟨"WantPlotsModel", "stepNow", "(II)I"⟩, 45), (⟨"WantPlotsModel", "threadsAhead", "(I)I"⟩, 45), (⟨"WantPlotsModel", "allSteps", "()I"⟩, 45), (⟨"WantPlotsModel", "isDull", "(II)Z"⟩, 45), (⟨"WantPlotsModel", "storyNow", "(I)I"⟩, 45), (⟨"WantPlotsModel", "dullMany", "()I"⟩, 45), (⟨"WantPlotsModel", "cut", "()I"⟩, 45), (⟨"WantPlotsModel", "firstDull", "(I)I"⟩, 45), (⟨"WantPlotsModel", "linksMany", "()I"⟩, 45), (⟨"WantPlotsModel", "farthest", "()I"⟩, 45), (⟨"WantPlotsModel", "togetherNow", "(I)I"⟩, 45)]
theorem lw_r6 : ∀ q ∈ lw_privs_6, lw_okq q := List.forall_mem_cons.mpr ⟨lw_p80, List.forall_mem_cons.mpr ⟨lw_p81, List.forall_mem_cons.mpr ⟨lw_p82, List.forall_mem_cons.mpr ⟨lw_p83, List.forall_mem_cons.mpr ⟨lw_p84, List.forall_mem_cons.mpr ⟨lw_p85, List.forall_mem_cons.mpr ⟨lw_p86, List.forall_mem_cons.mpr ⟨lw_p87, List.forall_mem_cons.mpr ⟨lw_p88, List.forall_mem_cons.mpr ⟨lw_p89, List.forall_mem_cons.mpr ⟨lw_p90, List.forall_mem_cons.mpr ⟨lw_p91, List.forall_mem_cons.mpr ⟨lw_p92, List.forall_mem_cons.mpr ⟨lw_p93, List.forall_mem_cons.mpr ⟨lw_p94, List.forall_mem_cons.mpr ⟨lw_p95, fun _ h => absurd h List.not_mem_nil⟩⟩⟩⟩⟩⟩⟩⟩⟩⟩⟩⟩⟩⟩⟩⟩
theorem lw_p96 : lw_okq (⟨"WantPlotsModel", "layTogether", "()V"⟩, 45) := ⟨⟨by decide +kernel, by decide +kernel⟩, List.mem_of_getElem? (i := 695) (by decide +kernel), List.mem_of_getElem? (i := 1145) (by decide +kernel), List.mem_of_getElem? (i := 1146) (by decide +kernel)⟩
theorem lw_p97 : lw_okq (⟨"WantPlotsModel", "waysNow", "(I)I"⟩, 45) := ⟨⟨by decide +kernel, by decide +kernel⟩, List.mem_of_getElem? (i := 695) (by decide +kernel), List.mem_of_getElem? (i := 1153) (by decide +kernel), List.mem_of_getElem? (i := 1154) (by decide +kernel)⟩
theorem lw_p98 : lw_okq (⟨"WantPlotsModel", "layMore", "()V"⟩, 45) := ⟨⟨by decide +kernel, by decide +kernel⟩, List.mem_of_getElem? (i := 695) (by decide +kernel), List.mem_of_getElem? (i := 1157) (by decide +kernel), List.mem_of_getElem? (i := 1158) (by decide +kernel)⟩
theorem lw_p99 : lw_okq (⟨"WantPlotsModel", "howMany", "(I)I"⟩, 45) := ⟨⟨by decide +kernel, by decide +kernel⟩, List.mem_of_getElem? (i := 695) (by decide +kernel), List.mem_of_getElem? (i := 1166) (by decide +kernel), List.mem_of_getElem? (i := 1167) (by decide +kernel)⟩
theorem lw_p100 : lw_okq (⟨"WantPlotsModel", "mixPeople", "()V"⟩, 45) := ⟨⟨by decide +kernel, by decide +kernel⟩, List.mem_of_getElem? (i := 695) (by decide +kernel), List.mem_of_getElem? (i := 1175) (by decide +kernel), List.mem_of_getElem? (i := 1176) (by decide +kernel)⟩
theorem lw_p101 : lw_okq (⟨"WantPlotsModel", "mix", "(J)V"⟩, 45) := ⟨⟨by decide +kernel, by decide +kernel⟩, List.mem_of_getElem? (i := 695) (by decide +kernel), List.mem_of_getElem? (i := 1179) (by decide +kernel), List.mem_of_getElem? (i := 1180) (by decide +kernel)⟩
theorem lw_p102 : lw_okq (⟨"WantPlotsModel", "mixStory", "()V"⟩, 45) := ⟨⟨by decide +kernel, by decide +kernel⟩, List.mem_of_getElem? (i := 695) (by decide +kernel), List.mem_of_getElem? (i := 1184) (by decide +kernel), List.mem_of_getElem? (i := 1185) (by decide +kernel)⟩
def lw_privs_7 : List (MethodName × Nat) := [(⟨"WantPlotsModel", "layTogether", "()V"⟩, 45), (⟨"WantPlotsModel", "waysNow", "(I)I"⟩, 45), (⟨"WantPlotsModel", "layMore", "()V"⟩, 45), (⟨"WantPlotsModel", "howMany", "(I)I"⟩, 45), (⟨"WantPlotsModel", "mixPeople", "()V"⟩, 45), (⟨"WantPlotsModel", "mix", "(J)V"⟩, 45), (⟨"WantPlotsModel", "mixStory", "()V"⟩, 45)]
theorem lw_r7 : ∀ q ∈ lw_privs_7, lw_okq q := List.forall_mem_cons.mpr ⟨lw_p96, List.forall_mem_cons.mpr ⟨lw_p97, List.forall_mem_cons.mpr ⟨lw_p98, List.forall_mem_cons.mpr ⟨lw_p99, List.forall_mem_cons.mpr ⟨lw_p100, List.forall_mem_cons.mpr ⟨lw_p101, List.forall_mem_cons.mpr ⟨lw_p102, fun _ h => absurd h List.not_mem_nil⟩⟩⟩⟩⟩⟩⟩
def lw_privs : List (MethodName × Nat) := lw_privs_1 ++ (lw_privs_2 ++ (lw_privs_3 ++ (lw_privs_4 ++ (lw_privs_5 ++ (lw_privs_6 ++ (lw_privs_7))))))
def lw_tbl : List Cond := k2_sels lw_privs ++ tables_1
theorem lw_privs_ok : ∀ q ∈ lw_privs, lw_okq q := by
  show ∀ q ∈ lw_privs_1 ++ (lw_privs_2 ++ (lw_privs_3 ++ (lw_privs_4 ++ (lw_privs_5 ++ (lw_privs_6 ++ (lw_privs_7)))))), lw_okq q
  exact List.forall_mem_append.mpr ⟨lw_r1, List.forall_mem_append.mpr ⟨lw_r2, List.forall_mem_append.mpr ⟨lw_r3, List.forall_mem_append.mpr ⟨lw_r4, List.forall_mem_append.mpr ⟨lw_r5, List.forall_mem_append.mpr ⟨lw_r6, lw_r7⟩⟩⟩⟩⟩⟩
def RX0 : String := "WantPlots$Counter"
def TX0 : u_T := fun k => match k with
  | 0 => ("WantPlots$Counter", "ending", "[I", false)
  | _ => ("WantPlots$Counter", "longer", "[I", false)
def tyX0 : Nat → FieldType := fun k => match k with
  | 0 => .array .int
  | _ => .array .int
abbrev wsX00 : List Cond := u_ws RX0 TX0 2
theorem nmX0 : ∀ a, a < 2 → ∀ b, b < 2 → a ≠ b → (TX0 a).2.1 ≠ (TX0 b).2.1 := by decide +kernel
theorem tyX0_ok : ∀ k, k < 2 → parseFieldDescriptor (TX0 k).2.2.1 = some (tyX0 k) := by decide +kernel
abbrev cX0_init : ByteArray := prog_2_method_1_code
def yX0_init : MethodName := ⟨RX0, "<init>", "()V"⟩
abbrev cX0_waysToAll : ByteArray := prog_2_method_2_code
def yX0_waysToAll : MethodName := ⟨RX0, "waysToAll", "(LWantPlots$World;II)I"⟩
abbrev cX0_lengthen : ByteArray := prog_2_method_3_code
def yX0_lengthen : MethodName := ⟨RX0, "lengthen", "(LWantPlots$World;)V"⟩
abbrev cX0_lengthenFrom : ByteArray := prog_2_method_4_code
def yX0_lengthenFrom : MethodName := ⟨RX0, "lengthenFrom", "(LWantPlots$World;I)V"⟩
abbrev cX0_wipe : ByteArray := prog_2_method_5_code
def yX0_wipe : MethodName := ⟨RX0, "wipe", "([I)V"⟩
def RX1 : String := "WantPlots$Page"
def TX1 : u_T := fun k => match k with
  | 0 => ("WantPlots$Page", "codes", "[I", true)
  | _ => ("WantPlots$Page", "length", "I", false)
def tyX1 : Nat → FieldType := fun k => match k with
  | 0 => .array .int
  | _ => .int
abbrev wsX10 : List Cond := u_ws RX1 TX1 2
theorem nmX1 : ∀ a, a < 2 → ∀ b, b < 2 → a ≠ b → (TX1 a).2.1 ≠ (TX1 b).2.1 := by decide +kernel
theorem tyX1_ok : ∀ k, k < 2 → parseFieldDescriptor (TX1 k).2.2.1 = some (tyX1 k) := by decide +kernel
abbrev cX1_init : ByteArray := prog_3_method_1_code
def yX1_init : MethodName := ⟨RX1, "<init>", "()V"⟩
abbrev cX1_append : ByteArray := prog_3_method_2_code
def yX1_append : MethodName := ⟨RX1, "append", "(I)V"⟩
def RX2 : String := "WantPlots$Reader"
def TX2 : u_T := fun k => match k with
  | 0 => ("WantPlots$Reader", "part", "I", false)
  | 1 => ("WantPlots$Reader", "latest", "I", false)
  | _ => ("WantPlots$Reader", "goalIsTrue", "Z", false)
def tyX2 : Nat → FieldType := fun k => match k with
  | 0 => .int
  | 1 => .int
  | _ => .boolean
abbrev wsX20 : List Cond := u_ws RX2 TX2 3
theorem nmX2 : ∀ a, a < 3 → ∀ b, b < 3 → a ≠ b → (TX2 a).2.1 ≠ (TX2 b).2.1 := by decide +kernel
theorem tyX2_ok : ∀ k, k < 3 → parseFieldDescriptor (TX2 k).2.2.1 = some (tyX2 k) := by decide +kernel
abbrev cX2_init : ByteArray := prog_4_method_1_code
def yX2_init : MethodName := ⟨RX2, "<init>", "()V"⟩
abbrev cX2_read : ByteArray := prog_4_method_2_code
def yX2_read : MethodName := ⟨RX2, "read", "(LWantPlots$Page;LWantPlots$World;)I"⟩
abbrev cX2_isComplete : ByteArray := prog_4_method_3_code
def yX2_isComplete : MethodName := ⟨RX2, "isComplete", "(LWantPlots$World;)Z"⟩
abbrev cX2_moveTo : ByteArray := prog_4_method_4_code
def yX2_moveTo : MethodName := ⟨RX2, "moveTo", "(I)Z"⟩
abbrev cX2_takes : ByteArray := prog_4_method_5_code
def yX2_takes : MethodName := ⟨RX2, "takes", "(LWantPlots$World;I)Z"⟩
abbrev cX2_takesInAct : ByteArray := prog_4_method_6_code
def yX2_takesInAct : MethodName := ⟨RX2, "takesInAct", "(LWantPlots$World;I)Z"⟩
abbrev cX2_takesKind : ByteArray := prog_4_method_7_code
def yX2_takesKind : MethodName := ⟨RX2, "takesKind", "(LWantPlots$World;I)Z"⟩
abbrev cX2_takesSign : ByteArray := prog_4_method_8_code
def yX2_takesSign : MethodName := ⟨RX2, "takesSign", "(I)Z"⟩
abbrev cX2_takesGoal : ByteArray := prog_4_method_9_code
def yX2_takesGoal : MethodName := ⟨RX2, "takesGoal", "(LWantPlots$World;I)Z"⟩
abbrev cX2_takesAfterGoal : ByteArray := prog_4_method_10_code
def yX2_takesAfterGoal : MethodName := ⟨RX2, "takesAfterGoal", "(LWantPlots$World;I)Z"⟩
abbrev cX2_takesFirstFact : ByteArray := prog_4_method_11_code
def yX2_takesFirstFact : MethodName := ⟨RX2, "takesFirstFact", "(LWantPlots$World;I)Z"⟩
abbrev cX2_takesOwner : ByteArray := prog_4_method_12_code
def yX2_takesOwner : MethodName := ⟨RX2, "takesOwner", "(LWantPlots$World;I)Z"⟩
abbrev cX2_takesInNeeds : ByteArray := prog_4_method_13_code
def yX2_takesInNeeds : MethodName := ⟨RX2, "takesInNeeds", "(LWantPlots$World;II)Z"⟩
abbrev cX2_takesInMakes : ByteArray := prog_4_method_14_code
def yX2_takesInMakes : MethodName := ⟨RX2, "takesInMakes", "(LWantPlots$World;II)Z"⟩
abbrev cX2_takesFact : ByteArray := prog_4_method_15_code
def yX2_takesFact : MethodName := ⟨RX2, "takesFact", "([IIII)Z"⟩
abbrev cX2_isNext : ByteArray := prog_4_method_16_code
def yX2_isNext : MethodName := ⟨RX2, "isNext", "(I)Z"⟩
abbrev cX2_factOf : ByteArray := prog_4_method_17_code
def yX2_factOf : MethodName := ⟨RX2, "factOf", "(I)I"⟩
def RX3 : String := "WantPlots$Search"
def TX3 : u_T := fun k => match k with
  | 0 => ("WantPlots$Search", "queue", "[I", true)
  | 1 => ("WantPlots$Search", "size", "I", false)
  | 2 => ("WantPlots$Search", "length", "I", false)
  | 3 => ("WantPlots$Search", "from", "[I", true)
  | 4 => ("WantPlots$Search", "by", "[I", true)
  | 5 => ("WantPlots$Search", "depth", "[I", true)
  | 6 => ("WantPlots$Search", "path", "[I", true)
  | 7 => ("WantPlots$Search", "reached", "[I", true)
  | _ => ("WantPlots$Search", "number", "I", false)
def tyX3 : Nat → FieldType := fun k => match k with
  | 0 => .array .int
  | 1 => .int
  | 2 => .int
  | 3 => .array .int
  | 4 => .array .int
  | 5 => .array .int
  | 6 => .array .int
  | 7 => .array .int
  | _ => .int
abbrev wsX30 : List Cond := u_ws RX3 TX3 9
theorem nmX3 : ∀ a, a < 9 → ∀ b, b < 9 → a ≠ b → (TX3 a).2.1 ≠ (TX3 b).2.1 := by decide +kernel
theorem tyX3_ok : ∀ k, k < 9 → parseFieldDescriptor (TX3 k).2.2.1 = some (tyX3 k) := by decide +kernel
abbrev cX3_init : ByteArray := prog_5_method_1_code
def yX3_init : MethodName := ⟨RX3, "<init>", "()V"⟩
abbrev cX3_begin : ByteArray := prog_5_method_2_code
def yX3_begin : MethodName := ⟨RX3, "begin", "(I)V"⟩
abbrev cX3_seek : ByteArray := prog_5_method_3_code
def yX3_seek : MethodName := ⟨RX3, "seek", "(LWantPlots$World;IIII)V"⟩
abbrev cX3_spread : ByteArray := prog_5_method_4_code
def yX3_spread : MethodName := ⟨RX3, "spread", "(LWantPlots$World;II)V"⟩
abbrev cX3_end : ByteArray := prog_5_method_5_code
def yX3_end : MethodName := ⟨RX3, "end", "(I)V"⟩
abbrev cX3_firstAct : ByteArray := prog_5_method_6_code
def yX3_firstAct : MethodName := ⟨RX3, "firstAct", "()I"⟩
abbrev cX3_actAt : ByteArray := prog_5_method_7_code
def yX3_actAt : MethodName := ⟨RX3, "actAt", "(I)I"⟩
def RX4 : String := "WantPlots$Story"
def TX4 : u_T := fun k => match k with
  | 0 => ("WantPlots$Story", "actOf", "[I", true)
  | 1 => ("WantPlots$Story", "factOf", "[I", true)
  | 2 => ("WantPlots$Story", "turnOf", "[I", true)
  | 3 => ("WantPlots$Story", "factsAfter", "[I", true)
  | 4 => ("WantPlots$Story", "links", "[I", true)
  | 5 => ("WantPlots$Story", "depends", "[I", true)
  | 6 => ("WantPlots$Story", "timesDone", "[I", true)
  | 7 => ("WantPlots$Story", "needsTrue", "[I", true)
  | 8 => ("WantPlots$Story", "needsFalse", "[I", true)
  | 9 => ("WantPlots$Story", "makesTrue", "[I", true)
  | 10 => ("WantPlots$Story", "makesFalse", "[I", true)
  | 11 => ("WantPlots$Story", "firstOfThread", "[I", true)
  | 12 => ("WantPlots$Story", "size", "I", false)
  | 13 => ("WantPlots$Story", "nextTurn", "I", false)
  | 14 => ("WantPlots$Story", "facts", "I", false)
  | _ => ("WantPlots$Story", "firstFacts", "I", false)
def tyX4 : Nat → FieldType := fun k => match k with
  | 0 => .array .int
  | 1 => .array .int
  | 2 => .array .int
  | 3 => .array .int
  | 4 => .array .int
  | 5 => .array .int
  | 6 => .array .int
  | 7 => .array .int
  | 8 => .array .int
  | 9 => .array .int
  | 10 => .array .int
  | 11 => .array .int
  | 12 => .int
  | 13 => .int
  | 14 => .int
  | _ => .int
abbrev wsX40 : List Cond := u_ws RX4 TX4 16
theorem nmX4 : ∀ a, a < 16 → ∀ b, b < 16 → a ≠ b → (TX4 a).2.1 ≠ (TX4 b).2.1 := by decide +kernel
theorem tyX4_ok : ∀ k, k < 16 → parseFieldDescriptor (TX4 k).2.2.1 = some (tyX4 k) := by decide +kernel
abbrev cX4_init : ByteArray := prog_6_method_1_code
def yX4_init : MethodName := ⟨RX4, "<init>", "()V"⟩
abbrev cX4_begin : ByteArray := prog_6_method_2_code
def yX4_begin : MethodName := ⟨RX4, "begin", "(I)V"⟩
abbrev cX4_addAct : ByteArray := prog_6_method_3_code
def yX4_addAct : MethodName := ⟨RX4, "addAct", "(LWantPlots$World;I)V"⟩
abbrev cX4_addFate : ByteArray := prog_6_method_4_code
def yX4_addFate : MethodName := ⟨RX4, "addFate", "(I)V"⟩
abbrev cX4_closeStep : ByteArray := prog_6_method_5_code
def yX4_closeStep : MethodName := ⟨RX4, "closeStep", "()V"⟩
abbrev cX4_linkBack : ByteArray := prog_6_method_6_code
def yX4_linkBack : MethodName := ⟨RX4, "linkBack", "(I)V"⟩
abbrev cX4_removeLast : ByteArray := prog_6_method_7_code
def yX4_removeLast : MethodName := ⟨RX4, "removeLast", "()V"⟩
abbrev cX4_allSteps : ByteArray := prog_6_method_8_code
def yX4_allSteps : MethodName := ⟨RX4, "allSteps", "()I"⟩
abbrev cX4_allLinks : ByteArray := prog_6_method_9_code
def yX4_allLinks : MethodName := ⟨RX4, "allLinks", "()I"⟩
abbrev cX4_widestLink : ByteArray := prog_6_method_10_code
def yX4_widestLink : MethodName := ⟨RX4, "widestLink", "()I"⟩
abbrev cX4_sortIntoThread : ByteArray := prog_6_method_11_code
def yX4_sortIntoThread : MethodName := ⟨RX4, "sortIntoThread", "(I)V"⟩
abbrev cX4_joinThreads : ByteArray := prog_6_method_12_code
def yX4_joinThreads : MethodName := ⟨RX4, "joinThreads", "(III)V"⟩
abbrev cX4_threadsBefore : ByteArray := prog_6_method_13_code
def yX4_threadsBefore : MethodName := ⟨RX4, "threadsBefore", "(I)I"⟩
abbrev cX4_threadOf : ByteArray := prog_6_method_14_code
def yX4_threadOf : MethodName := ⟨RX4, "threadOf", "(I)I"⟩
abbrev cX4_isValid : ByteArray := prog_6_method_15_code
def yX4_isValid : MethodName := ⟨RX4, "isValid", "(III)Z"⟩
abbrev cX4_isDull : ByteArray := prog_6_method_16_code
def yX4_isDull : MethodName := ⟨RX4, "isDull", "(IIII)Z"⟩
abbrev cX4_dullSteps : ByteArray := prog_6_method_17_code
def yX4_dullSteps : MethodName := ⟨RX4, "dullSteps", "(II)I"⟩
abbrev cX4_firstDull : ByteArray := prog_6_method_18_code
def yX4_firstDull : MethodName := ⟨RX4, "firstDull", "(III)I"⟩
abbrev cX4_minimalSteps : ByteArray := prog_6_method_19_code
def yX4_minimalSteps : MethodName := ⟨RX4, "minimalSteps", "(II)I"⟩
def RX5 : String := "WantPlots$World"
def TX5 : u_T := fun k => match k with
  | 0 => ("WantPlots$World", "kind", "[I", true)
  | 1 => ("WantPlots$World", "goalFact", "[I", true)
  | 2 => ("WantPlots$World", "wantsTrue", "[I", true)
  | 3 => ("WantPlots$World", "wantsFalse", "[I", true)
  | 4 => ("WantPlots$World", "owner", "[I", true)
  | 5 => ("WantPlots$World", "needsTrue", "[I", true)
  | 6 => ("WantPlots$World", "needsFalse", "[I", true)
  | 7 => ("WantPlots$World", "makesTrue", "[I", true)
  | 8 => ("WantPlots$World", "makesFalse", "[I", true)
  | 9 => ("WantPlots$World", "people", "I", false)
  | 10 => ("WantPlots$World", "acts", "I", false)
  | _ => ("WantPlots$World", "firstFacts", "I", false)
def tyX5 : Nat → FieldType := fun k => match k with
  | 0 => .array .int
  | 1 => .array .int
  | 2 => .array .int
  | 3 => .array .int
  | 4 => .array .int
  | 5 => .array .int
  | 6 => .array .int
  | 7 => .array .int
  | 8 => .array .int
  | 9 => .int
  | 10 => .int
  | _ => .int
abbrev wsX50 : List Cond := u_ws RX5 TX5 12
theorem nmX5 : ∀ a, a < 12 → ∀ b, b < 12 → a ≠ b → (TX5 a).2.1 ≠ (TX5 b).2.1 := by decide +kernel
theorem tyX5_ok : ∀ k, k < 12 → parseFieldDescriptor (TX5 k).2.2.1 = some (tyX5 k) := by decide +kernel
abbrev cX5_init : ByteArray := prog_7_method_1_code
def yX5_init : MethodName := ⟨RX5, "<init>", "()V"⟩
abbrev cX5_clear : ByteArray := prog_7_method_2_code
def yX5_clear : MethodName := ⟨RX5, "clear", "()V"⟩
abbrev cX5_addPerson : ByteArray := prog_7_method_3_code
def yX5_addPerson : MethodName := ⟨RX5, "addPerson", "(I)V"⟩
abbrev cX5_addAct : ByteArray := prog_7_method_4_code
def yX5_addAct : MethodName := ⟨RX5, "addAct", "(I)V"⟩
abbrev cX5_everybody : ByteArray := prog_7_method_5_code
def yX5_everybody : MethodName := ⟨RX5, "everybody", "()I"⟩
abbrev cX5_everyAct : ByteArray := prog_7_method_6_code
def yX5_everyAct : MethodName := ⟨RX5, "everyAct", "()I"⟩
abbrev cX5_satisfiedBy : ByteArray := prog_7_method_7_code
def yX5_satisfiedBy : MethodName := ⟨RX5, "satisfiedBy", "(I)I"⟩
abbrev cX5_goalsToBeTrue : ByteArray := prog_7_method_8_code
def yX5_goalsToBeTrue : MethodName := ⟨RX5, "goalsToBeTrue", "(I)I"⟩
abbrev cX5_goalsToBeFalse : ByteArray := prog_7_method_9_code
def yX5_goalsToBeFalse : MethodName := ⟨RX5, "goalsToBeFalse", "(I)I"⟩
abbrev cX5_factsOf : ByteArray := prog_7_method_10_code
def yX5_factsOf : MethodName := ⟨RX5, "factsOf", "([II)I"⟩
def RX6 : String := "WantPlots"
def TX6 : u_T := fun k => match k with
  | 0 => ("WantPlots", "sheet", "LWantPlots$Page;", true)
  | 1 => ("WantPlots", "reader", "LWantPlots$Reader;", true)
  | 2 => ("WantPlots", "tale", "LWantPlots$Story;", true)
  | 3 => ("WantPlots", "search", "LWantPlots$Search;", true)
  | 4 => ("WantPlots", "probe", "LWantPlots$Search;", true)
  | 5 => ("WantPlots", "counter", "LWantPlots$Counter;", true)
  | 6 => ("WantPlots", "present", "LWantPlots$World;", false)
  | 7 => ("WantPlots", "spare", "LWantPlots$World;", false)
  | 8 => ("WantPlots", "hasWorld", "Z", false)
  | 9 => ("WantPlots", "worldsRead", "I", false)
  | 10 => ("WantPlots", "turnsPassed", "I", false)
  | _ => ("WantPlots", "stepsUndone", "I", false)
def tyX6 : Nat → FieldType := fun k => match k with
  | 0 => .object "WantPlots$Page"
  | 1 => .object "WantPlots$Reader"
  | 2 => .object "WantPlots$Story"
  | 3 => .object "WantPlots$Search"
  | 4 => .object "WantPlots$Search"
  | 5 => .object "WantPlots$Counter"
  | 6 => .object "WantPlots$World"
  | 7 => .object "WantPlots$World"
  | 8 => .boolean
  | 9 => .int
  | 10 => .int
  | _ => .int
abbrev wsX60 : List Cond := u_ws RX6 TX6 12
theorem nmX6 : ∀ a, a < 12 → ∀ b, b < 12 → a ≠ b → (TX6 a).2.1 ≠ (TX6 b).2.1 := by decide +kernel
theorem tyX6_ok : ∀ k, k < 12 → parseFieldDescriptor (TX6 k).2.2.1 = some (tyX6 k) := by decide +kernel
abbrev cX6_init : ByteArray := prog_1_method_1_code
def yX6_init : MethodName := ⟨RX6, "<init>", "()V"⟩
abbrev cX6_letter : ByteArray := prog_1_method_2_code
def yX6_letter : MethodName := ⟨RX6, "letter", "(I)I"⟩
abbrev cX6_blank : ByteArray := prog_1_method_3_code
def yX6_blank : MethodName := ⟨RX6, "blank", "()I"⟩
abbrev cX6_fault : ByteArray := prog_1_method_4_code
def yX6_fault : MethodName := ⟨RX6, "fault", "()I"⟩
abbrev cX6_world : ByteArray := prog_1_method_5_code
def yX6_world : MethodName := ⟨RX6, "world", "()I"⟩
abbrev cX6_go : ByteArray := prog_1_method_6_code
def yX6_go : MethodName := ⟨RX6, "go", "(I)I"⟩
abbrev cX6_fate : ByteArray := prog_1_method_7_code
def yX6_fate : MethodName := ⟨RX6, "fate", "(I)I"⟩
abbrev cX6_act : ByteArray := prog_1_method_8_code
def yX6_act : MethodName := ⟨RX6, "act", "(I)I"⟩
abbrev cX6_undo : ByteArray := prog_1_method_9_code
def yX6_undo : MethodName := ⟨RX6, "undo", "()I"⟩
abbrev cX6_about : ByteArray := prog_1_method_10_code
def yX6_about : MethodName := ⟨RX6, "about", "(I)I"⟩
abbrev cX6_one : ByteArray := prog_1_method_11_code
def yX6_one : MethodName := ⟨RX6, "one", "(II)I"⟩
abbrev cX6_plan : ByteArray := prog_1_method_12_code
def yX6_plan : MethodName := ⟨RX6, "plan", "(II)I"⟩
abbrev cX6_foil : ByteArray := prog_1_method_13_code
def yX6_foil : MethodName := ⟨RX6, "foil", "(III)I"⟩
abbrev cX6_deed : ByteArray := prog_1_method_14_code
def yX6_deed : MethodName := ⟨RX6, "deed", "(II)I"⟩
abbrev cX6_step : ByteArray := prog_1_method_15_code
def yX6_step : MethodName := ⟨RX6, "step", "(II)I"⟩
abbrev cX6_story : ByteArray := prog_1_method_16_code
def yX6_story : MethodName := ⟨RX6, "story", "(I)I"⟩
abbrev cX6_together : ByteArray := prog_1_method_17_code
def yX6_together : MethodName := ⟨RX6, "together", "(I)I"⟩
abbrev cX6_ways : ByteArray := prog_1_method_18_code
def yX6_ways : MethodName := ⟨RX6, "ways", "(I)I"⟩
abbrev cX6_count : ByteArray := prog_1_method_19_code
def yX6_count : MethodName := ⟨RX6, "count", "(I)I"⟩
abbrev cX6_digest : ByteArray := prog_1_method_20_code
def yX6_digest : MethodName := ⟨RX6, "digest", "()J"⟩
abbrev cX6_withActs : ByteArray := prog_1_method_21_code
def yX6_withActs : MethodName := ⟨RX6, "withActs", "(J)J"⟩
abbrev cX6_withSteps : ByteArray := prog_1_method_22_code
def yX6_withSteps : MethodName := ⟨RX6, "withSteps", "(J)J"⟩
abbrev cX6_withWays : ByteArray := prog_1_method_23_code
def yX6_withWays : MethodName := ⟨RX6, "withWays", "(J)J"⟩
abbrev cX6_withPath : ByteArray := prog_1_method_24_code
def yX6_withPath : MethodName := ⟨RX6, "withPath", "(J)J"⟩
abbrev cX6_isPerson : ByteArray := prog_1_method_25_code
def yX6_isPerson : MethodName := ⟨RX6, "isPerson", "(I)Z"⟩
abbrev cX6_isAct : ByteArray := prog_1_method_26_code
def yX6_isAct : MethodName := ⟨RX6, "isAct", "(I)Z"⟩
abbrev cX6_canBeDone : ByteArray := prog_1_method_27_code
def yX6_canBeDone : MethodName := ⟨RX6, "canBeDone", "(I)Z"⟩
abbrev cX6_isSatisfied : ByteArray := prog_1_method_28_code
def yX6_isSatisfied : MethodName := ⟨RX6, "isSatisfied", "(I)Z"⟩
abbrev cX6_repertoire : ByteArray := prog_1_method_29_code
def yX6_repertoire : MethodName := ⟨RX6, "repertoire", "(I)I"⟩
abbrev cX6_stepsOf : ByteArray := prog_1_method_30_code
def yX6_stepsOf : MethodName := ⟨RX6, "stepsOf", "(I)I"⟩
abbrev cX6_finalTrue : ByteArray := prog_1_method_31_code
def yX6_finalTrue : MethodName := ⟨RX6, "finalTrue", "()I"⟩
abbrev cX6_finalFalse : ByteArray := prog_1_method_32_code
def yX6_finalFalse : MethodName := ⟨RX6, "finalFalse", "()I"⟩
abbrev cX6_passTurn : ByteArray := prog_1_method_33_code
def yX6_passTurn : MethodName := ⟨RX6, "passTurn", "()V"⟩
abbrev cX6_choice : ByteArray := prog_1_method_34_code
def yX6_choice : MethodName := ⟨RX6, "choice", "(II)I"⟩
abbrev cX6_seekPlan : ByteArray := prog_1_method_35_code
def yX6_seekPlan : MethodName := ⟨RX6, "seekPlan", "(I)V"⟩
abbrev cX6_seekTogether : ByteArray := prog_1_method_36_code
def yX6_seekTogether : MethodName := ⟨RX6, "seekTogether", "()V"⟩
abbrev cX6_seekFoil : ByteArray := prog_1_method_37_code
def yX6_seekFoil : MethodName := ⟨RX6, "seekFoil", "(II)V"⟩
abbrev cX6_holds : ByteArray := prog_1_method_38_code
def yX6_holds : MethodName := ⟨RX6, "holds", "(III)Z"⟩
abbrev cX6_changed : ByteArray := prog_1_method_39_code
def yX6_changed : MethodName := ⟨RX6, "changed", "(III)I"⟩
abbrev cX6_contains : ByteArray := prog_1_method_40_code
def yX6_contains : MethodName := ⟨RX6, "contains", "(II)Z"⟩
def RX7 : String := "WantPlotsModel"
def TX7 : u_T := fun k => match k with
  | 0 => ("WantPlotsModel", "people", "I", false)
  | 1 => ("WantPlotsModel", "kindOf", "[I", true)
  | 2 => ("WantPlotsModel", "wantOf", "[I", true)
  | 3 => ("WantPlotsModel", "wantsSo", "[Z", true)
  | 4 => ("WantPlotsModel", "firstFacts", "I", false)
  | 5 => ("WantPlotsModel", "acts", "I", false)
  | 6 => ("WantPlotsModel", "whose", "[I", true)
  | 7 => ("WantPlotsModel", "needs", "[I", true)
  | 8 => ("WantPlotsModel", "bars", "[I", true)
  | 9 => ("WantPlotsModel", "gives", "[I", true)
  | 10 => ("WantPlotsModel", "takes", "[I", true)
  | 11 => ("WantPlotsModel", "facts", "I", false)
  | 12 => ("WantPlotsModel", "turn", "I", false)
  | 13 => ("WantPlotsModel", "steps", "I", false)
  | 14 => ("WantPlotsModel", "stepAct", "[I", true)
  | 15 => ("WantPlotsModel", "stepGave", "[I", true)
  | 16 => ("WantPlotsModel", "stepTook", "[I", true)
  | 17 => ("WantPlotsModel", "stepFacts", "[I", true)
  | 18 => ("WantPlotsModel", "stepTurn", "[I", true)
  | 19 => ("WantPlotsModel", "pageLength", "I", false)
  | 20 => ("WantPlotsModel", "page", "[I", true)
  | 21 => ("WantPlotsModel", "reads", "I", false)
  | 22 => ("WantPlotsModel", "turnsEver", "I", false)
  | 23 => ("WantPlotsModel", "undone", "I", false)
  | 24 => ("WantPlotsModel", "stage", "I", false)
  | 25 => ("WantPlotsModel", "newPeople", "I", false)
  | 26 => ("WantPlotsModel", "newKind", "[I", true)
  | 27 => ("WantPlotsModel", "newWant", "[I", true)
  | 28 => ("WantPlotsModel", "newSo", "[Z", true)
  | 29 => ("WantPlotsModel", "newFirst", "I", false)
  | 30 => ("WantPlotsModel", "newActs", "I", false)
  | 31 => ("WantPlotsModel", "newWhose", "[I", true)
  | 32 => ("WantPlotsModel", "newNeeds", "[I", true)
  | 33 => ("WantPlotsModel", "newBars", "[I", true)
  | 34 => ("WantPlotsModel", "newGives", "[I", true)
  | 35 => ("WantPlotsModel", "newTakes", "[I", true)
  | 36 => ("WantPlotsModel", "isSought", "[Z", true)
  | 37 => ("WantPlotsModel", "few", "[I", true)
  | 38 => ("WantPlotsModel", "byActs", "I", false)
  | 39 => ("WantPlotsModel", "links", "[I", true)
  | 40 => ("WantPlotsModel", "hangs", "[I", true)
  | 41 => ("WantPlotsModel", "threads", "[I", true)
  | 42 => ("WantPlotsModel", "waysFrom", "[I", true)
  | 43 => ("WantPlotsModel", "waysMore", "[I", true)
  | _ => ("WantPlotsModel", "h", "J", false)
def tyX7 : Nat → FieldType := fun k => match k with
  | 0 => .int
  | 1 => .array .int
  | 2 => .array .int
  | 3 => .array .boolean
  | 4 => .int
  | 5 => .int
  | 6 => .array .int
  | 7 => .array .int
  | 8 => .array .int
  | 9 => .array .int
  | 10 => .array .int
  | 11 => .int
  | 12 => .int
  | 13 => .int
  | 14 => .array .int
  | 15 => .array .int
  | 16 => .array .int
  | 17 => .array .int
  | 18 => .array .int
  | 19 => .int
  | 20 => .array .int
  | 21 => .int
  | 22 => .int
  | 23 => .int
  | 24 => .int
  | 25 => .int
  | 26 => .array .int
  | 27 => .array .int
  | 28 => .array .boolean
  | 29 => .int
  | 30 => .int
  | 31 => .array .int
  | 32 => .array .int
  | 33 => .array .int
  | 34 => .array .int
  | 35 => .array .int
  | 36 => .array .boolean
  | 37 => .array .int
  | 38 => .int
  | 39 => .array .int
  | 40 => .array .int
  | 41 => .array .int
  | 42 => .array .int
  | 43 => .array .int
  | _ => .long
abbrev wsX70 : List Cond := u_ws RX7 TX7 45
theorem nmX7 : ∀ a, a < 45 → ∀ b, b < 45 → a ≠ b → (TX7 a).2.1 ≠ (TX7 b).2.1 := by decide +kernel
theorem tyX7_ok : ∀ k, k < 45 → parseFieldDescriptor (TX7 k).2.2.1 = some (tyX7 k) := by decide +kernel
abbrev cX7_init : ByteArray := prog_9_method_1_code
def yX7_init : MethodName := ⟨RX7, "<init>", "()V"⟩
abbrev cX7_within : ByteArray := prog_9_method_3_code
def yX7_within : MethodName := ⟨RX7, "within", "(III)Z"⟩
abbrev cX7_letter : ByteArray := prog_9_method_4_code
def yX7_letter : MethodName := ⟨RX7, "letter", "(I)I"⟩
abbrev cX7_blank : ByteArray := prog_9_method_5_code
def yX7_blank : MethodName := ⟨RX7, "blank", "()I"⟩
abbrev cX7_bitOf : ByteArray := prog_9_method_6_code
def yX7_bitOf : MethodName := ⟨RX7, "bitOf", "(I)I"⟩
abbrev cX7_comesBehind : ByteArray := prog_9_method_7_code
def yX7_comesBehind : MethodName := ⟨RX7, "comesBehind", "(II)Z"⟩
abbrev cX7_goes : ByteArray := prog_9_method_8_code
def yX7_goes : MethodName := ⟨RX7, "goes", "(ZI)Z"⟩
abbrev cX7_takesKind : ByteArray := prog_9_method_9_code
def yX7_takesKind : MethodName := ⟨RX7, "takesKind", "(I)Z"⟩
abbrev cX7_takesSign : ByteArray := prog_9_method_10_code
def yX7_takesSign : MethodName := ⟨RX7, "takesSign", "(I)Z"⟩
abbrev cX7_takesWant : ByteArray := prog_9_method_11_code
def yX7_takesWant : MethodName := ⟨RX7, "takesWant", "(I)Z"⟩
abbrev cX7_takesPerson : ByteArray := prog_9_method_12_code
def yX7_takesPerson : MethodName := ⟨RX7, "takesPerson", "(I)Z"⟩
abbrev cX7_takesFirst : ByteArray := prog_9_method_13_code
def yX7_takesFirst : MethodName := ⟨RX7, "takesFirst", "(I)Z"⟩
abbrev cX7_takesWhose : ByteArray := prog_9_method_14_code
def yX7_takesWhose : MethodName := ⟨RX7, "takesWhose", "(I)Z"⟩
abbrev cX7_takesNeeds : ByteArray := prog_9_method_15_code
def yX7_takesNeeds : MethodName := ⟨RX7, "takesNeeds", "(I)Z"⟩
abbrev cX7_takesBars : ByteArray := prog_9_method_16_code
def yX7_takesBars : MethodName := ⟨RX7, "takesBars", "(I)Z"⟩
abbrev cX7_takesNext : ByteArray := prog_9_method_17_code
def yX7_takesNext : MethodName := ⟨RX7, "takesNext", "(I)Z"⟩
abbrev cX7_takesGives : ByteArray := prog_9_method_18_code
def yX7_takesGives : MethodName := ⟨RX7, "takesGives", "(I)Z"⟩
abbrev cX7_takesTakes : ByteArray := prog_9_method_19_code
def yX7_takesTakes : MethodName := ⟨RX7, "takesTakes", "(I)Z"⟩
abbrev cX7_takesLetter : ByteArray := prog_9_method_20_code
def yX7_takesLetter : MethodName := ⟨RX7, "takesLetter", "(I)Z"⟩
abbrev cX7_read : ByteArray := prog_9_method_21_code
def yX7_read : MethodName := ⟨RX7, "read", "()I"⟩
abbrev cX7_fault : ByteArray := prog_9_method_22_code
def yX7_fault : MethodName := ⟨RX7, "fault", "()I"⟩
abbrev cX7_world : ByteArray := prog_9_method_23_code
def yX7_world : MethodName := ⟨RX7, "world", "()I"⟩
abbrev cX7_isWorld : ByteArray := prog_9_method_24_code
def yX7_isWorld : MethodName := ⟨RX7, "isWorld", "()Z"⟩
abbrev cX7_canDo : ByteArray := prog_9_method_25_code
def yX7_canDo : MethodName := ⟨RX7, "canDo", "(II)Z"⟩
abbrev cX7_behind : ByteArray := prog_9_method_26_code
def yX7_behind : MethodName := ⟨RX7, "behind", "(II)I"⟩
abbrev cX7_isWanted : ByteArray := prog_9_method_27_code
def yX7_isWanted : MethodName := ⟨RX7, "isWanted", "(II)Z"⟩
abbrev cX7_wantsIn : ByteArray := prog_9_method_28_code
def yX7_wantsIn : MethodName := ⟨RX7, "wantsIn", "(I)I"⟩
abbrev cX7_timesDone : ByteArray := prog_9_method_29_code
def yX7_timesDone : MethodName := ⟨RX7, "timesDone", "(I)I"⟩
abbrev cX7_actsOf : ByteArray := prog_9_method_30_code
def yX7_actsOf : MethodName := ⟨RX7, "actsOf", "(I)I"⟩
abbrev cX7_lessFrom : ByteArray := prog_9_method_31_code
def yX7_lessFrom : MethodName := ⟨RX7, "lessFrom", "(I)I"⟩
abbrev cX7_layFew : ByteArray := prog_9_method_32_code
def yX7_layFew : MethodName := ⟨RX7, "layFew", "(I)V"⟩
abbrev cX7_layPlan : ByteArray := prog_9_method_33_code
def yX7_layPlan : MethodName := ⟨RX7, "layPlan", "(I)V"⟩
abbrev cX7_layFoil : ByteArray := prog_9_method_34_code
def yX7_layFoil : MethodName := ⟨RX7, "layFoil", "(II)V"⟩
abbrev cX7_layTogether : ByteArray := prog_9_method_35_code
def yX7_layTogether : MethodName := ⟨RX7, "layTogether", "()V"⟩
abbrev cX7_nextAct : ByteArray := prog_9_method_36_code
def yX7_nextAct : MethodName := ⟨RX7, "nextAct", "(I)I"⟩
abbrev cX7_laidAct : ByteArray := prog_9_method_37_code
def yX7_laidAct : MethodName := ⟨RX7, "laidAct", "(I)I"⟩
abbrev cX7_laidMany : ByteArray := prog_9_method_38_code
def yX7_laidMany : MethodName := ⟨RX7, "laidMany", "()I"⟩
abbrev cX7_foilFirst : ByteArray := prog_9_method_39_code
def yX7_foilFirst : MethodName := ⟨RX7, "foilFirst", "(I)I"⟩
abbrev cX7_wouldDo : ByteArray := prog_9_method_40_code
def yX7_wouldDo : MethodName := ⟨RX7, "wouldDo", "(II)I"⟩
abbrev cX7_addStep : ByteArray := prog_9_method_41_code
def yX7_addStep : MethodName := ⟨RX7, "addStep", "(III)V"⟩
abbrev cX7_passTurn : ByteArray := prog_9_method_42_code
def yX7_passTurn : MethodName := ⟨RX7, "passTurn", "()V"⟩
abbrev cX7_goNow : ByteArray := prog_9_method_43_code
def yX7_goNow : MethodName := ⟨RX7, "goNow", "(I)I"⟩
abbrev cX7_go : ByteArray := prog_9_method_44_code
def yX7_go : MethodName := ⟨RX7, "go", "(I)I"⟩
abbrev cX7_fate : ByteArray := prog_9_method_45_code
def yX7_fate : MethodName := ⟨RX7, "fate", "(I)I"⟩
abbrev cX7_isAct : ByteArray := prog_9_method_46_code
def yX7_isAct : MethodName := ⟨RX7, "isAct", "(I)Z"⟩
abbrev cX7_act : ByteArray := prog_9_method_47_code
def yX7_act : MethodName := ⟨RX7, "act", "(I)I"⟩
abbrev cX7_undo : ByteArray := prog_9_method_48_code
def yX7_undo : MethodName := ⟨RX7, "undo", "()I"⟩
abbrev cX7_aboutNow : ByteArray := prog_9_method_49_code
def yX7_aboutNow : MethodName := ⟨RX7, "aboutNow", "(I)I"⟩
abbrev cX7_about : ByteArray := prog_9_method_50_code
def yX7_about : MethodName := ⟨RX7, "about", "(I)I"⟩
abbrev cX7_stepsBy : ByteArray := prog_9_method_51_code
def yX7_stepsBy : MethodName := ⟨RX7, "stepsBy", "(I)I"⟩
abbrev cX7_planNow : ByteArray := prog_9_method_52_code
def yX7_planNow : MethodName := ⟨RX7, "planNow", "(II)I"⟩
abbrev cX7_oneNow : ByteArray := prog_9_method_53_code
def yX7_oneNow : MethodName := ⟨RX7, "oneNow", "(II)I"⟩
abbrev cX7_isOne : ByteArray := prog_9_method_54_code
def yX7_isOne : MethodName := ⟨RX7, "isOne", "(I)Z"⟩
abbrev cX7_one : ByteArray := prog_9_method_55_code
def yX7_one : MethodName := ⟨RX7, "one", "(II)I"⟩
abbrev cX7_plan : ByteArray := prog_9_method_56_code
def yX7_plan : MethodName := ⟨RX7, "plan", "(II)I"⟩
abbrev cX7_foilNow : ByteArray := prog_9_method_57_code
def yX7_foilNow : MethodName := ⟨RX7, "foilNow", "(III)I"⟩
abbrev cX7_foil : ByteArray := prog_9_method_58_code
def yX7_foil : MethodName := ⟨RX7, "foil", "(III)I"⟩
abbrev cX7_deedNow : ByteArray := prog_9_method_59_code
def yX7_deedNow : MethodName := ⟨RX7, "deedNow", "(II)I"⟩
abbrev cX7_deed : ByteArray := prog_9_method_60_code
def yX7_deed : MethodName := ⟨RX7, "deed", "(II)I"⟩
abbrev cX7_latest : ByteArray := prog_9_method_61_code
def yX7_latest : MethodName := ⟨RX7, "latest", "(IIZ)I"⟩
abbrev cX7_linksOf : ByteArray := prog_9_method_62_code
def yX7_linksOf : MethodName := ⟨RX7, "linksOf", "(I)I"⟩
abbrev cX7_joins : ByteArray := prog_9_method_63_code
def yX7_joins : MethodName := ⟨RX7, "joins", "(II)Z"⟩
abbrev cX7_layLinks : ByteArray := prog_9_method_64_code
def yX7_layLinks : MethodName := ⟨RX7, "layLinks", "()V"⟩
abbrev cX7_threadsAhead : ByteArray := prog_9_method_65_code
def yX7_threadsAhead : MethodName := ⟨RX7, "threadsAhead", "(I)I"⟩
abbrev cX7_isDull : ByteArray := prog_9_method_66_code
def yX7_isDull : MethodName := ⟨RX7, "isDull", "(II)Z"⟩
abbrev cX7_allSteps : ByteArray := prog_9_method_67_code
def yX7_allSteps : MethodName := ⟨RX7, "allSteps", "()I"⟩
abbrev cX7_stepNow : ByteArray := prog_9_method_68_code
def yX7_stepNow : MethodName := ⟨RX7, "stepNow", "(II)I"⟩
abbrev cX7_factOf : ByteArray := prog_9_method_69_code
def yX7_factOf : MethodName := ⟨RX7, "factOf", "(I)I"⟩
abbrev cX7_stepTold : ByteArray := prog_9_method_70_code
def yX7_stepTold : MethodName := ⟨RX7, "stepTold", "(II)I"⟩
abbrev cX7_step : ByteArray := prog_9_method_71_code
def yX7_step : MethodName := ⟨RX7, "step", "(II)I"⟩
abbrev cX7_dullMany : ByteArray := prog_9_method_72_code
def yX7_dullMany : MethodName := ⟨RX7, "dullMany", "()I"⟩
abbrev cX7_firstDull : ByteArray := prog_9_method_73_code
def yX7_firstDull : MethodName := ⟨RX7, "firstDull", "(I)I"⟩
abbrev cX7_cut : ByteArray := prog_9_method_74_code
def yX7_cut : MethodName := ⟨RX7, "cut", "()I"⟩
abbrev cX7_bits : ByteArray := prog_9_method_75_code
def yX7_bits : MethodName := ⟨RX7, "bits", "(I)I"⟩
abbrev cX7_linksMany : ByteArray := prog_9_method_76_code
def yX7_linksMany : MethodName := ⟨RX7, "linksMany", "()I"⟩
abbrev cX7_farthest : ByteArray := prog_9_method_77_code
def yX7_farthest : MethodName := ⟨RX7, "farthest", "()I"⟩
abbrev cX7_storyNow : ByteArray := prog_9_method_78_code
def yX7_storyNow : MethodName := ⟨RX7, "storyNow", "(I)I"⟩
abbrev cX7_story : ByteArray := prog_9_method_79_code
def yX7_story : MethodName := ⟨RX7, "story", "(I)I"⟩
abbrev cX7_togetherNow : ByteArray := prog_9_method_80_code
def yX7_togetherNow : MethodName := ⟨RX7, "togetherNow", "(I)I"⟩
abbrev cX7_together : ByteArray := prog_9_method_81_code
def yX7_together : MethodName := ⟨RX7, "together", "(I)I"⟩
abbrev cX7_layMore : ByteArray := prog_9_method_82_code
def yX7_layMore : MethodName := ⟨RX7, "layMore", "()V"⟩
abbrev cX7_waysNow : ByteArray := prog_9_method_83_code
def yX7_waysNow : MethodName := ⟨RX7, "waysNow", "(I)I"⟩
abbrev cX7_ways : ByteArray := prog_9_method_84_code
def yX7_ways : MethodName := ⟨RX7, "ways", "(I)I"⟩
abbrev cX7_howMany : ByteArray := prog_9_method_85_code
def yX7_howMany : MethodName := ⟨RX7, "howMany", "(I)I"⟩
abbrev cX7_count : ByteArray := prog_9_method_86_code
def yX7_count : MethodName := ⟨RX7, "count", "(I)I"⟩
abbrev cX7_mix : ByteArray := prog_9_method_87_code
def yX7_mix : MethodName := ⟨RX7, "mix", "(J)V"⟩
abbrev cX7_mixPeople : ByteArray := prog_9_method_88_code
def yX7_mixPeople : MethodName := ⟨RX7, "mixPeople", "()V"⟩
abbrev cX7_mixStory : ByteArray := prog_9_method_89_code
def yX7_mixStory : MethodName := ⟨RX7, "mixStory", "()V"⟩
abbrev cX7_digest : ByteArray := prog_9_method_90_code
def yX7_digest : MethodName := ⟨RX7, "digest", "()J"⟩
def RJ6 : String := "java/lang/Integer"
def TJ6 : u_T := fun k => match k with
  | _ => ("", "", "", false)
def tyJ6 : Nat → FieldType := fun k => match k with
  | _ => .int
abbrev wsJ60 : List Cond := u_ws RJ6 TJ6 0
theorem nmJ6 : ∀ a, a < 0 → ∀ b, b < 0 → a ≠ b → (TJ6 a).2.1 ≠ (TJ6 b).2.1 := by decide +kernel
theorem tyJ6_ok : ∀ k, k < 0 → parseFieldDescriptor (TJ6 k).2.2.1 = some (tyJ6 k) := by decide +kernel
abbrev cJ6_bitCount_0f7a4 : ByteArray := prog_10_method_49_code
def yJ6_bitCount_0f7a4 : MethodName := ⟨RJ6, "bitCount", "(I)I"⟩
def RJ9 : String := "java/lang/Math"
def TJ9 : u_T := fun k => match k with
  | _ => ("", "", "", false)
def tyJ9 : Nat → FieldType := fun k => match k with
  | _ => .int
abbrev wsJ90 : List Cond := u_ws RJ9 TJ9 0
theorem nmJ9 : ∀ a, a < 0 → ∀ b, b < 0 → a ≠ b → (TJ9 a).2.1 ≠ (TJ9 b).2.1 := by decide +kernel
theorem tyJ9_ok : ∀ k, k < 0 → parseFieldDescriptor (TJ9 k).2.2.1 = some (tyJ9 k) := by decide +kernel
abbrev cJ9_max_7cf53 : ByteArray := prog_11_method_65_code
def yJ9_max_7cf53 : MethodName := ⟨RJ9, "max", "(II)I"⟩
abbrev cJ9_min_7cf53 : ByteArray := prog_11_method_69_code
def yJ9_min_7cf53 : MethodName := ⟨RJ9, "min", "(II)I"⟩
def RL : String := "WantPlotsLaw"
abbrev cL_law : ByteArray := code
def yL_law : MethodName := ⟨RL, "law", "([I)Z"⟩
/-! the tables by class number -/
def zR : Nat → String
  | 0 => RX0
  | 1 => RX1
  | 2 => RX2
  | 3 => RX3
  | 4 => RX4
  | 5 => RX5
  | 6 => RX6
  | 7 => RX7
  | _ => ""
def zT : Nat → u_T
  | 0 => TX0
  | 1 => TX1
  | 2 => TX2
  | 3 => TX3
  | 4 => TX4
  | 5 => TX5
  | 6 => TX6
  | 7 => TX7
  | _ => fun _ => ("", "", "", false)
def zF : Nat → Nat
  | 0 => 2
  | 1 => 2
  | 2 => 3
  | 3 => 9
  | 4 => 16
  | 5 => 12
  | 6 => 12
  | 7 => 45
  | _ => 0
def zt : Nat → Nat → FieldType
  | 0 => tyX0
  | 1 => tyX1
  | 2 => tyX2
  | 3 => tyX3
  | 4 => tyX4
  | 5 => tyX5
  | 6 => tyX6
  | 7 => tyX7
  | _ => fun _ => .int
abbrev zcl : List vw_C := [(RX0, TX0, 2), (RX1, TX1, 2), (RX2, TX2, 3), (RX3, TX3, 9), (RX4, TX4, 16), (RX5, TX5, 12), (RX6, TX6, 12), (RX7, TX7, 45)]
theorem zcl_at : ∀ c, c < 8 → zcl[c]? = some (zR c, zT c, zF c)
  | 0, _ => rfl | 1, _ => rfl | 2, _ => rfl | 3, _ => rfl | 4, _ => rfl | 5, _ => rfl | 6, _ => rfl | 7, _ => rfl
  | n + 8, h => absurd h (by omega)
theorem zty_ok : ∀ c, c < 8 → ∀ k, k < zF c → parseFieldDescriptor (zT c k).2.2.1 = some (zt c k)
  | 0, _ => tyX0_ok | 1, _ => tyX1_ok | 2, _ => tyX2_ok | 3, _ => tyX3_ok | 4, _ => tyX4_ok | 5, _ => tyX5_ok | 6, _ => tyX6_ok | 7, _ => tyX7_ok
  | n + 8, h => absurd h (by omega)
theorem znm_ok : ∀ c, c < 8 → ∀ a, a < zF c → ∀ b, b < zF c → a ≠ b → (zT c a).2.1 ≠ (zT c b).2.1
  | 0, _ => nmX0 | 1, _ => nmX1 | 2, _ => nmX2 | 3, _ => nmX3 | 4, _ => nmX4 | 5, _ => nmX5 | 6, _ => nmX6 | 7, _ => nmX7
  | n + 8, h => absurd h (by omega)
def zG : List Cond := lw_tbl.filter goodWord
theorem zG_of {w : Cond} (h : w ∈ lw_tbl) (g : goodWord w = true) : w ∈ zG := List.mem_filter.mpr ⟨h, g⟩
theorem zG_at {w : Cond} (i : Nat) (h : lw_tbl[i]? = some w) (g : goodWord w = true) : w ∈ zG := zG_of (List.mem_of_getElem? h) g
theorem zG_tbl {w : Cond} (h : w ∈ zG) : w ∈ lw_tbl := (List.mem_filter.mp h).1
theorem zG_good {w : Cond} (h : w ∈ zG) : goodWord w = true := (List.mem_filter.mp h).2
theorem zgood_tbl {w : Cond} (h : w ∈ zG) : GoodIn zG (w :: zG) := fun v hv => by
  rcases List.mem_cons.mp hv with rfl | hv
  · exact ⟨h, good_of_word (zG_good h)⟩
  · exact ⟨hv, good_of_word (zG_good hv)⟩
theorem zG_ws (ws : List Cond) (h : ws.all (fun w => decide (w ∈ lw_tbl) && goodWord w) = true) : ∀ w ∈ ws, w ∈ zG := fun w hw => by
  have h1 := List.all_eq_true.mp h w hw
  simp only [Bool.and_eq_true, decide_eq_true_eq] at h1
  exact zG_of h1.1 h1.2
theorem zin_0 : ∀ w ∈ u_ws RX0 TX0 2, w ∈ zG := zG_ws _ (by decide +kernel)
theorem zin_1 : ∀ w ∈ u_ws RX1 TX1 2, w ∈ zG := zG_ws _ (by decide +kernel)
theorem zin_2 : ∀ w ∈ u_ws RX2 TX2 3, w ∈ zG := zG_ws _ (by decide +kernel)
theorem zin_3 : ∀ w ∈ u_ws RX3 TX3 9, w ∈ zG := zG_ws _ (by decide +kernel)
theorem zin_4 : ∀ w ∈ u_ws RX4 TX4 16, w ∈ zG := zG_ws _ (by decide +kernel)
theorem zin_5 : ∀ w ∈ u_ws RX5 TX5 12, w ∈ zG := zG_ws _ (by decide +kernel)
theorem zin_6 : ∀ w ∈ u_ws RX6 TX6 12, w ∈ zG := zG_ws _ (by decide +kernel)
theorem zin_7 : ∀ w ∈ u_ws RX7 TX7 45, w ∈ zG := zG_ws _ (by decide +kernel)
theorem zin_ok : ∀ c, c < 8 → ∀ w ∈ u_ws (zR c) (zT c) (zF c), w ∈ zG
  | 0, _ => zin_0 | 1, _ => zin_1 | 2, _ => zin_2 | 3, _ => zin_3 | 4, _ => zin_4 | 5, _ => zin_5 | 6, _ => zin_6 | 7, _ => zin_7
  | n + 8, h => absurd h (by omega)
def zNl : List Cond := [Cond.methodLinkNest "WantPlots" 9 ⟨"WantPlots$Page", "<init>", "()V"⟩ "WantPlots", Cond.methodLinkNest "WantPlots" 18 ⟨"WantPlots$Reader", "<init>", "()V"⟩ "WantPlots", Cond.methodLinkNest "WantPlots" 25 ⟨"WantPlots$Story", "<init>", "()V"⟩ "WantPlots", Cond.methodLinkNest "WantPlots" 32 ⟨"WantPlots$Search", "<init>", "()V"⟩ "WantPlots", Cond.methodLinkNest "WantPlots" 42 ⟨"WantPlots$Counter", "<init>", "()V"⟩ "WantPlots", Cond.methodLinkNest "WantPlots" 49 ⟨"WantPlots$World", "<init>", "()V"⟩ "WantPlots", Cond.methodLinkNest "WantPlots$Reader" 124 ⟨"WantPlots", "contains", "(II)Z"⟩ "WantPlots", Cond.methodLinkNest "WantPlots$Search" 44 ⟨"WantPlots", "holds", "(III)Z"⟩ "WantPlots", Cond.methodLinkNest "WantPlots$Search" 60 ⟨"WantPlots", "contains", "(II)Z"⟩ "WantPlots", Cond.methodLinkNest "WantPlots$Search" 76 ⟨"WantPlots", "changed", "(III)I"⟩ "WantPlots", Cond.methodLinkNest "WantPlots$Story" 70 ⟨"WantPlots", "changed", "(III)I"⟩ "WantPlots", Cond.methodLinkNest "WantPlots$Story" 87 ⟨"WantPlots", "contains", "(II)Z"⟩ "WantPlots", Cond.methodLinkNest "WantPlots$World" 49 ⟨"WantPlots", "holds", "(III)Z"⟩ "WantPlots", Cond.methodLinkNest "WantPlots$World" 57 ⟨"WantPlots", "contains", "(II)Z"⟩ "WantPlots", Cond.methodLinkNest "WantPlots$Story" 107 ⟨"WantPlots", "holds", "(III)Z"⟩ "WantPlots", Cond.methodLinkNest "WantPlots$Counter" 39 ⟨"WantPlots", "holds", "(III)Z"⟩ "WantPlots", Cond.methodLinkNest "WantPlots$Counter" 64 ⟨"WantPlots", "changed", "(III)I"⟩ "WantPlots"]
def zNe (U : State) : Prop := ∀ w ∈ zNl, va_Nw w U
theorem zNl_tbl : ∀ w ∈ zNl, w ∈ lw_tbl := by decide +kernel
theorem zNl_kind : zNl.all (fun w => match w with | .methodLinkNest .. => true | _ => false) = true := by decide +kernel
theorem zNe.warm {s U : State} (hW : s.WarmedH U.vm) (h : zNe s) : zNe U := fun w hw => by
  have k := List.all_eq_true.mp zNl_kind w hw
  have z := h w hw
  cases w with
  | methodLinkNest a i x q => exact va_Nw.warmM hW z
  | _ => simp at k
theorem zNe.same {s U : State} (e : s.vm = U.vm) (h : zNe s) : zNe U := fun w hw => by
  have k := List.all_eq_true.mp zNl_kind w hw
  have z := h w hw
  cases w with
  | methodLinkNest a i x q => exact va_Nw.same rfl e z
  | _ => simp at k
