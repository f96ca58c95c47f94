section
-- ===== PART A: goes FIRST, ahead of the names: the tables' words, and 'selects' of the private methods out of them =====
/-- a private method of a class that the tables say can be made, by its rows of tables_1 -/
def lw_okq (q : MethodName × Nat) : Prop := (q.1.cls ≠ "java/lang/invoke/MethodHandle" ∧ q.1.cls ≠ "java/lang/invoke/VarHandle") ∧ Cond.instantiable q.1.cls q.2 ∈ tables_1 ∧ Cond.privateMethod q.1 ∈ tables_1 ∧ Cond.instanceMethod q.1 ∈ tables_1
theorem lw_p0 : lw_okq (⟨"WantPlots$Reader", "moveTo", "(I)Z"⟩, 3) := ⟨⟨by decide +kernel, by decide +kernel⟩, List.mem_of_getElem? (i := 38) (by decide +kernel), List.mem_of_getElem? (i := 310) (by decide +kernel), List.mem_of_getElem? (i := 311) (by decide +kernel)⟩
theorem lw_p1 : lw_okq (⟨"WantPlots$Reader", "takes", "(LWantPlots$World;I)Z"⟩, 3) := ⟨⟨by decide +kernel, by decide +kernel⟩, List.mem_of_getElem? (i := 38) (by decide +kernel), List.mem_of_getElem? (i := 314) (by decide +kernel), List.mem_of_getElem? (i := 315) (by decide +kernel)⟩
theorem lw_p2 : lw_okq (⟨"WantPlots$Reader", "takesKind", "(LWantPlots$World;I)Z"⟩, 3) := ⟨⟨by decide +kernel, by decide +kernel⟩, List.mem_of_getElem? (i := 38) (by decide +kernel), List.mem_of_getElem? (i := 318) (by decide +kernel), List.mem_of_getElem? (i := 319) (by decide +kernel)⟩
theorem lw_p3 : lw_okq (⟨"WantPlots$Reader", "takesSign", "(I)Z"⟩, 3) := ⟨⟨by decide +kernel, by decide +kernel⟩, List.mem_of_getElem? (i := 38) (by decide +kernel), List.mem_of_getElem? (i := 326) (by decide +kernel), List.mem_of_getElem? (i := 327) (by decide +kernel)⟩
theorem lw_p4 : lw_okq (⟨"WantPlots$Reader", "takesGoal", "(LWantPlots$World;I)Z"⟩, 3) := ⟨⟨by decide +kernel, by decide +kernel⟩, List.mem_of_getElem? (i := 38) (by decide +kernel), List.mem_of_getElem? (i := 330) (by decide +kernel), List.mem_of_getElem? (i := 331) (by decide +kernel)⟩
theorem lw_p5 : lw_okq (⟨"WantPlots$Reader", "takesAfterGoal", "(LWantPlots$World;I)Z"⟩, 3) := ⟨⟨by decide +kernel, by decide +kernel⟩, List.mem_of_getElem? (i := 38) (by decide +kernel), List.mem_of_getElem? (i := 337) (by decide +kernel), List.mem_of_getElem? (i := 338) (by decide +kernel)⟩
theorem lw_p6 : lw_okq (⟨"WantPlots$Reader", "takesFirstFact", "(LWantPlots$World;I)Z"⟩, 3) := ⟨⟨by decide +kernel, by decide +kernel⟩, List.mem_of_getElem? (i := 38) (by decide +kernel), List.mem_of_getElem? (i := 341) (by decide +kernel), List.mem_of_getElem? (i := 342) (by decide +kernel)⟩
theorem lw_p7 : lw_okq (⟨"WantPlots$Reader", "isNext", "(I)Z"⟩, 3) := ⟨⟨by decide +kernel, by decide +kernel⟩, List.mem_of_getElem? (i := 38) (by decide +kernel), List.mem_of_getElem? (i := 345) (by decide +kernel), List.mem_of_getElem? (i := 346) (by decide +kernel)⟩
theorem lw_p8 : lw_okq (⟨"WantPlots$Reader", "takesOwner", "(LWantPlots$World;I)Z"⟩, 3) := ⟨⟨by decide +kernel, by decide +kernel⟩, List.mem_of_getElem? (i := 38) (by decide +kernel), List.mem_of_getElem? (i := 349) (by decide +kernel), List.mem_of_getElem? (i := 350) (by decide +kernel)⟩
theorem lw_p9 : lw_okq (⟨"WantPlots$Reader", "takesInAct", "(LWantPlots$World;I)Z"⟩, 3) := ⟨⟨by decide +kernel, by decide +kernel⟩, List.mem_of_getElem? (i := 38) (by decide +kernel), List.mem_of_getElem? (i := 357) (by decide +kernel), List.mem_of_getElem? (i := 358) (by decide +kernel)⟩
theorem lw_p10 : lw_okq (⟨"WantPlots$Reader", "takesInNeeds", "(LWantPlots$World;II)Z"⟩, 3) := ⟨⟨by decide +kernel, by decide +kernel⟩, List.mem_of_getElem? (i := 38) (by decide +kernel), List.mem_of_getElem? (i := 361) (by decide +kernel), List.mem_of_getElem? (i := 362) (by decide +kernel)⟩
theorem lw_p11 : lw_okq (⟨"WantPlots$Reader", "takesFact", "([IIII)Z"⟩, 3) := ⟨⟨by decide +kernel, by decide +kernel⟩, List.mem_of_getElem? (i := 38) (by decide +kernel), List.mem_of_getElem? (i := 365) (by decide +kernel), List.mem_of_getElem? (i := 366) (by decide +kernel)⟩
theorem lw_p12 : lw_okq (⟨"WantPlots$Reader", "takesInMakes", "(LWantPlots$World;II)Z"⟩, 3) := ⟨⟨by decide +kernel, by decide +kernel⟩, List.mem_of_getElem? (i := 38) (by decide +kernel), List.mem_of_getElem? (i := 372) (by decide +kernel), List.mem_of_getElem? (i := 373) (by decide +kernel)⟩
theorem lw_p13 : lw_okq (⟨"WantPlots", "passTurn", "()V"⟩, 12) := ⟨⟨by decide +kernel, by decide +kernel⟩, List.mem_of_getElem? (i := 12) (by decide +kernel), List.mem_of_getElem? (i := 393) (by decide +kernel), List.mem_of_getElem? (i := 394) (by decide +kernel)⟩
theorem lw_p14 : lw_okq (⟨"WantPlots", "choice", "(II)I"⟩, 12) := ⟨⟨by decide +kernel, by decide +kernel⟩, List.mem_of_getElem? (i := 12) (by decide +kernel), List.mem_of_getElem? (i := 397) (by decide +kernel), List.mem_of_getElem? (i := 398) (by decide +kernel)⟩
theorem lw_p15 : lw_okq (⟨"WantPlots", "isPerson", "(I)Z"⟩, 12) := ⟨⟨by decide +kernel, by decide +kernel⟩, List.mem_of_getElem? (i := 12) (by decide +kernel), List.mem_of_getElem? (i := 401) (by decide +kernel), List.mem_of_getElem? (i := 402) (by decide +kernel)⟩
def lw_privs_1 : List (MethodName × Nat) := [(⟨"WantPlots$Reader", "moveTo", "(I)Z"⟩, 3), (⟨"WantPlots$Reader", "takes", "(LWantPlots$World;I)Z"⟩, 3), (⟨"WantPlots$Reader", "takesKind", "(LWantPlots$World;I)Z"⟩, 3), (⟨"WantPlots$Reader", "takesSign", "(I)Z"⟩, 3), (⟨"WantPlots$Reader", "takesGoal", "(LWantPlots$World;I)Z"⟩, 3), (⟨"WantPlots$Reader", "takesAfterGoal", "(LWantPlots$World;I)Z"⟩, 3), (⟨"WantPlots$Reader", "takesFirstFact", "(LWantPlots$World;I)Z"⟩, 3), (⟨"WantPlots$Reader", "isNext", "(I)Z"⟩, 3), (⟨"WantPlots$Reader", "takesOwner", "(LWantPlots$World;I)Z"⟩, 3), (⟨"WantPlots$Reader", "takesInAct", "(LWantPlots$World;I)Z"⟩, 3), (⟨"WantPlots$Reader", "takesInNeeds", "(LWantPlots$World;II)Z"⟩, 3), (⟨"WantPlots$Reader", "takesFact", "([IIII)Z"⟩, 3), (⟨"WantPlots$Reader", "takesInMakes", "(LWantPlots$World;II)Z"⟩, 3), (⟨"WantPlots", "passTurn", "()V"⟩, 12), (⟨"WantPlots", "choice", "(II)I"⟩, 12), (⟨"WantPlots", "isPerson", "(I)Z"⟩, 12)]
theorem lw_r1 : ∀ q ∈ lw_privs_1, lw_okq q := List.forall_mem_cons.mpr ⟨lw_p0, List.forall_mem_cons.mpr ⟨lw_p1, List.forall_mem_cons.mpr ⟨lw_p2, List.forall_mem_cons.mpr ⟨lw_p3, List.forall_mem_cons.mpr ⟨lw_p4, List.forall_mem_cons.mpr ⟨lw_p5, List.forall_mem_cons.mpr ⟨lw_p6, List.forall_mem_cons.mpr ⟨lw_p7, List.forall_mem_cons.mpr ⟨lw_p8, List.forall_mem_cons.mpr ⟨lw_p9, List.forall_mem_cons.mpr ⟨lw_p10, List.forall_mem_cons.mpr ⟨lw_p11, List.forall_mem_cons.mpr ⟨lw_p12, List.forall_mem_cons.mpr ⟨lw_p13, List.forall_mem_cons.mpr ⟨lw_p14, List.forall_mem_cons.mpr ⟨lw_p15, fun _ h => absurd h List.not_mem_nil⟩⟩⟩⟩⟩⟩⟩⟩⟩⟩⟩⟩⟩⟩⟩⟩
theorem lw_p16 : lw_okq (⟨"WantPlots", "isSatisfied", "(I)Z"⟩, 12) := ⟨⟨by decide +kernel, by decide +kernel⟩, List.mem_of_getElem? (i := 12) (by decide +kernel), List.mem_of_getElem? (i := 405) (by decide +kernel), List.mem_of_getElem? (i := 406) (by decide +kernel)⟩
theorem lw_p17 : lw_okq (⟨"WantPlots", "seekPlan", "(I)V"⟩, 12) := ⟨⟨by decide +kernel, by decide +kernel⟩, List.mem_of_getElem? (i := 12) (by decide +kernel), List.mem_of_getElem? (i := 412) (by decide +kernel), List.mem_of_getElem? (i := 413) (by decide +kernel)⟩
theorem lw_p18 : lw_okq (⟨"WantPlots", "repertoire", "(I)I"⟩, 12) := ⟨⟨by decide +kernel, by decide +kernel⟩, List.mem_of_getElem? (i := 12) (by decide +kernel), List.mem_of_getElem? (i := 416) (by decide +kernel), List.mem_of_getElem? (i := 417) (by decide +kernel)⟩
theorem lw_p19 : lw_okq (⟨"WantPlots", "seekFoil", "(II)V"⟩, 12) := ⟨⟨by decide +kernel, by decide +kernel⟩, List.mem_of_getElem? (i := 12) (by decide +kernel), List.mem_of_getElem? (i := 441) (by decide +kernel), List.mem_of_getElem? (i := 442) (by decide +kernel)⟩
theorem lw_p20 : lw_okq (⟨"WantPlots", "isAct", "(I)Z"⟩, 12) := ⟨⟨by decide +kernel, by decide +kernel⟩, List.mem_of_getElem? (i := 12) (by decide +kernel), List.mem_of_getElem? (i := 452) (by decide +kernel), List.mem_of_getElem? (i := 453) (by decide +kernel)⟩
theorem lw_p21 : lw_okq (⟨"WantPlots$Story", "closeStep", "()V"⟩, 16) := ⟨⟨by decide +kernel, by decide +kernel⟩, List.mem_of_getElem? (i := 54) (by decide +kernel), List.mem_of_getElem? (i := 460) (by decide +kernel), List.mem_of_getElem? (i := 461) (by decide +kernel)⟩
theorem lw_p22 : lw_okq (⟨"WantPlots$Story", "linkBack", "(I)V"⟩, 16) := ⟨⟨by decide +kernel, by decide +kernel⟩, List.mem_of_getElem? (i := 54) (by decide +kernel), List.mem_of_getElem? (i := 465) (by decide +kernel), List.mem_of_getElem? (i := 466) (by decide +kernel)⟩
theorem lw_p23 : lw_okq (⟨"WantPlots$Story", "sortIntoThread", "(I)V"⟩, 16) := ⟨⟨by decide +kernel, by decide +kernel⟩, List.mem_of_getElem? (i := 54) (by decide +kernel), List.mem_of_getElem? (i := 469) (by decide +kernel), List.mem_of_getElem? (i := 470) (by decide +kernel)⟩
theorem lw_p24 : lw_okq (⟨"WantPlots$Story", "joinThreads", "(III)V"⟩, 16) := ⟨⟨by decide +kernel, by decide +kernel⟩, List.mem_of_getElem? (i := 54) (by decide +kernel), List.mem_of_getElem? (i := 474) (by decide +kernel), List.mem_of_getElem? (i := 475) (by decide +kernel)⟩
theorem lw_p25 : lw_okq (⟨"WantPlots", "canBeDone", "(I)Z"⟩, 12) := ⟨⟨by decide +kernel, by decide +kernel⟩, List.mem_of_getElem? (i := 12) (by decide +kernel), List.mem_of_getElem? (i := 496) (by decide +kernel), List.mem_of_getElem? (i := 497) (by decide +kernel)⟩
theorem lw_p26 : lw_okq (⟨"WantPlots", "stepsOf", "(I)I"⟩, 12) := ⟨⟨by decide +kernel, by decide +kernel⟩, List.mem_of_getElem? (i := 12) (by decide +kernel), List.mem_of_getElem? (i := 521) (by decide +kernel), List.mem_of_getElem? (i := 522) (by decide +kernel)⟩
theorem lw_p27 : lw_okq (⟨"WantPlots", "finalTrue", "()I"⟩, 12) := ⟨⟨by decide +kernel, by decide +kernel⟩, List.mem_of_getElem? (i := 12) (by decide +kernel), List.mem_of_getElem? (i := 557) (by decide +kernel), List.mem_of_getElem? (i := 558) (by decide +kernel)⟩
theorem lw_p28 : lw_okq (⟨"WantPlots$World", "factsOf", "([II)I"⟩, 12) := ⟨⟨by decide +kernel, by decide +kernel⟩, List.mem_of_getElem? (i := 170) (by decide +kernel), List.mem_of_getElem? (i := 565) (by decide +kernel), List.mem_of_getElem? (i := 566) (by decide +kernel)⟩
theorem lw_p29 : lw_okq (⟨"WantPlots", "finalFalse", "()I"⟩, 12) := ⟨⟨by decide +kernel, by decide +kernel⟩, List.mem_of_getElem? (i := 12) (by decide +kernel), List.mem_of_getElem? (i := 570) (by decide +kernel), List.mem_of_getElem? (i := 571) (by decide +kernel)⟩
theorem lw_p30 : lw_okq (⟨"WantPlots$Story", "isValid", "(III)Z"⟩, 16) := ⟨⟨by decide +kernel, by decide +kernel⟩, List.mem_of_getElem? (i := 54) (by decide +kernel), List.mem_of_getElem? (i := 582) (by decide +kernel), List.mem_of_getElem? (i := 583) (by decide +kernel)⟩
theorem lw_p31 : lw_okq (⟨"WantPlots$Story", "firstDull", "(III)I"⟩, 16) := ⟨⟨by decide +kernel, by decide +kernel⟩, List.mem_of_getElem? (i := 54) (by decide +kernel), List.mem_of_getElem? (i := 602) (by decide +kernel), List.mem_of_getElem? (i := 603) (by decide +kernel)⟩
def lw_privs_2 : List (MethodName × Nat) := [(⟨"WantPlots", "isSatisfied", "(I)Z"⟩, 12), (⟨"WantPlots", "seekPlan", "(I)V"⟩, 12), (⟨"WantPlots", "repertoire", "(I)I"⟩, 12), (⟨"WantPlots", "seekFoil", "(II)V"⟩, 12), (⟨"WantPlots", "isAct", "(I)Z"⟩, 12), (⟨"WantPlots$Story", "closeStep", "()V"⟩, 16), (⟨"WantPlots$Story", "linkBack", "(I)V"⟩, 16), (⟨"WantPlots$Story", "sortIntoThread", "(I)V"⟩, 16), (⟨"WantPlots$Story", "joinThreads", "(III)V"⟩, 16), (⟨"WantPlots", "canBeDone", "(I)Z"⟩, 12), (⟨"WantPlots", "stepsOf", "(I)I"⟩, 12), (⟨"WantPlots", "finalTrue", "()I"⟩, 12), (⟨"WantPlots$World", "factsOf", "([II)I"⟩, 12), (⟨"WantPlots", "finalFalse", "()I"⟩, 12), (⟨"WantPlots$Story", "isValid", "(III)Z"⟩, 16), (⟨"WantPlots$Story", "firstDull", "(III)I"⟩, 16)]
theorem lw_r2 : ∀ q ∈ lw_privs_2, lw_okq q := List.forall_mem_cons.mpr ⟨lw_p16, List.forall_mem_cons.mpr ⟨lw_p17, List.forall_mem_cons.mpr ⟨lw_p18, List.forall_mem_cons.mpr ⟨lw_p19, List.forall_mem_cons.mpr ⟨lw_p20, List.forall_mem_cons.mpr ⟨lw_p21, List.forall_mem_cons.mpr ⟨lw_p22, List.forall_mem_cons.mpr ⟨lw_p23, List.forall_mem_cons.mpr ⟨lw_p24, List.forall_mem_cons.mpr ⟨lw_p25, List.forall_mem_cons.mpr ⟨lw_p26, List.forall_mem_cons.mpr ⟨lw_p27, List.forall_mem_cons.mpr ⟨lw_p28, List.forall_mem_cons.mpr ⟨lw_p29, List.forall_mem_cons.mpr ⟨lw_p30, List.forall_mem_cons.mpr ⟨lw_p31, fun _ h => absurd h List.not_mem_nil⟩⟩⟩⟩⟩⟩⟩⟩⟩⟩⟩⟩⟩⟩⟩⟩
theorem lw_p32 : lw_okq (⟨"WantPlots", "seekTogether", "()V"⟩, 12) := ⟨⟨by decide +kernel, by decide +kernel⟩, List.mem_of_getElem? (i := 12) (by decide +kernel), List.mem_of_getElem? (i := 625) (by decide +kernel), List.mem_of_getElem? (i := 626) (by decide +kernel)⟩
theorem lw_p33 : lw_okq (⟨"WantPlots$Counter", "lengthen", "(LWantPlots$World;)V"⟩, 2) := ⟨⟨by decide +kernel, by decide +kernel⟩, List.mem_of_getElem? (i := 157) (by decide +kernel), List.mem_of_getElem? (i := 648) (by decide +kernel), List.mem_of_getElem? (i := 649) (by decide +kernel)⟩
theorem lw_p34 : lw_okq (⟨"WantPlots$Counter", "lengthenFrom", "(LWantPlots$World;I)V"⟩, 2) := ⟨⟨by decide +kernel, by decide +kernel⟩, List.mem_of_getElem? (i := 157) (by decide +kernel), List.mem_of_getElem? (i := 652) (by decide +kernel), List.mem_of_getElem? (i := 653) (by decide +kernel)⟩
theorem lw_p35 : lw_okq (⟨"WantPlots", "withPath", "(J)J"⟩, 12) := ⟨⟨by decide +kernel, by decide +kernel⟩, List.mem_of_getElem? (i := 12) (by decide +kernel), List.mem_of_getElem? (i := 674) (by decide +kernel), List.mem_of_getElem? (i := 675) (by decide +kernel)⟩
theorem lw_p36 : lw_okq (⟨"WantPlots", "withActs", "(J)J"⟩, 12) := ⟨⟨by decide +kernel, by decide +kernel⟩, List.mem_of_getElem? (i := 12) (by decide +kernel), List.mem_of_getElem? (i := 678) (by decide +kernel), List.mem_of_getElem? (i := 679) (by decide +kernel)⟩
theorem lw_p37 : lw_okq (⟨"WantPlots", "withSteps", "(J)J"⟩, 12) := ⟨⟨by decide +kernel, by decide +kernel⟩, List.mem_of_getElem? (i := 12) (by decide +kernel), List.mem_of_getElem? (i := 683) (by decide +kernel), List.mem_of_getElem? (i := 684) (by decide +kernel)⟩
theorem lw_p38 : lw_okq (⟨"WantPlots", "withWays", "(J)J"⟩, 12) := ⟨⟨by decide +kernel, by decide +kernel⟩, List.mem_of_getElem? (i := 12) (by decide +kernel), List.mem_of_getElem? (i := 689) (by decide +kernel), List.mem_of_getElem? (i := 690) (by decide +kernel)⟩
theorem lw_p39 : lw_okq (⟨"WantPlotsModel", "read", "()I"⟩, 45) := ⟨⟨by decide +kernel, by decide +kernel⟩, List.mem_of_getElem? (i := 695) (by decide +kernel), List.mem_of_getElem? (i := 853) (by decide +kernel), List.mem_of_getElem? (i := 854) (by decide +kernel)⟩
theorem lw_p40 : lw_okq (⟨"WantPlotsModel", "takesLetter", "(I)Z"⟩, 45) := ⟨⟨by decide +kernel, by decide +kernel⟩, List.mem_of_getElem? (i := 695) (by decide +kernel), List.mem_of_getElem? (i := 857) (by decide +kernel), List.mem_of_getElem? (i := 858) (by decide +kernel)⟩
theorem lw_p41 : lw_okq (⟨"WantPlotsModel", "takesFirst", "(I)Z"⟩, 45) := ⟨⟨by decide +kernel, by decide +kernel⟩, List.mem_of_getElem? (i := 695) (by decide +kernel), List.mem_of_getElem? (i := 861) (by decide +kernel), List.mem_of_getElem? (i := 862) (by decide +kernel)⟩
theorem lw_p42 : lw_okq (⟨"WantPlotsModel", "goes", "(ZI)Z"⟩, 45) := ⟨⟨by decide +kernel, by decide +kernel⟩, List.mem_of_getElem? (i := 695) (by decide +kernel), List.mem_of_getElem? (i := 865) (by decide +kernel), List.mem_of_getElem? (i := 866) (by decide +kernel)⟩
theorem lw_p43 : lw_okq (⟨"WantPlotsModel", "takesWhose", "(I)Z"⟩, 45) := ⟨⟨by decide +kernel, by decide +kernel⟩, List.mem_of_getElem? (i := 695) (by decide +kernel), List.mem_of_getElem? (i := 875) (by decide +kernel), List.mem_of_getElem? (i := 876) (by decide +kernel)⟩
theorem lw_p44 : lw_okq (⟨"WantPlotsModel", "takesNeeds", "(I)Z"⟩, 45) := ⟨⟨by decide +kernel, by decide +kernel⟩, List.mem_of_getElem? (i := 695) (by decide +kernel), List.mem_of_getElem? (i := 879) (by decide +kernel), List.mem_of_getElem? (i := 880) (by decide +kernel)⟩
theorem lw_p45 : lw_okq (⟨"WantPlotsModel", "takesBars", "(I)Z"⟩, 45) := ⟨⟨by decide +kernel, by decide +kernel⟩, List.mem_of_getElem? (i := 695) (by decide +kernel), List.mem_of_getElem? (i := 883) (by decide +kernel), List.mem_of_getElem? (i := 884) (by decide +kernel)⟩
theorem lw_p46 : lw_okq (⟨"WantPlotsModel", "takesGives", "(I)Z"⟩, 45) := ⟨⟨by decide +kernel, by decide +kernel⟩, List.mem_of_getElem? (i := 695) (by decide +kernel), List.mem_of_getElem? (i := 887) (by decide +kernel), List.mem_of_getElem? (i := 888) (by decide +kernel)⟩
theorem lw_p47 : lw_okq (⟨"WantPlotsModel", "takesNext", "(I)Z"⟩, 45) := ⟨⟨by decide +kernel, by decide +kernel⟩, List.mem_of_getElem? (i := 695) (by decide +kernel), List.mem_of_getElem? (i := 891) (by decide +kernel), List.mem_of_getElem? (i := 892) (by decide +kernel)⟩
def lw_privs_3 : List (MethodName × Nat) := [(⟨"WantPlots", "seekTogether", "()V"⟩, 12), (⟨"WantPlots$Counter", "lengthen", "(LWantPlots$World;)V"⟩, 2), (⟨"WantPlots$Counter", "lengthenFrom", "(LWantPlots$World;I)V"⟩, 2), (⟨"WantPlots", "withPath", "(J)J"⟩, 12), (⟨"WantPlots", "withActs", "(J)J"⟩, 12), (⟨"WantPlots", "withSteps", "(J)J"⟩, 12), (⟨"WantPlots", "withWays", "(J)J"⟩, 12), (⟨"WantPlotsModel", "read", "()I"⟩, 45), (⟨"WantPlotsModel", "takesLetter", "(I)Z"⟩, 45), (⟨"WantPlotsModel", "takesFirst", "(I)Z"⟩, 45), (⟨"WantPlotsModel", "goes", "(ZI)Z"⟩, 45), (⟨"WantPlotsModel", "takesWhose", "(I)Z"⟩, 45), (⟨"WantPlotsModel", "takesNeeds", "(I)Z"⟩, 45), (⟨"WantPlotsModel", "takesBars", "(I)Z"⟩, 45), (⟨"WantPlotsModel", "takesGives", "(I)Z"⟩, 45), (⟨"WantPlotsModel", "takesNext", "(I)Z"⟩, 45)]
theorem lw_r3 : ∀ q ∈ lw_privs_3, lw_okq q := List.forall_mem_cons.mpr ⟨lw_p32, List.forall_mem_cons.mpr ⟨lw_p33, List.forall_mem_cons.mpr ⟨lw_p34, List.forall_mem_cons.mpr ⟨lw_p35, List.forall_mem_cons.mpr ⟨lw_p36, List.forall_mem_cons.mpr ⟨lw_p37, List.forall_mem_cons.mpr ⟨lw_p38, List.forall_mem_cons.mpr ⟨lw_p39, List.forall_mem_cons.mpr ⟨lw_p40, List.forall_mem_cons.mpr ⟨lw_p41, List.forall_mem_cons.mpr ⟨lw_p42, List.forall_mem_cons.mpr ⟨lw_p43, List.forall_mem_cons.mpr ⟨lw_p44, List.forall_mem_cons.mpr ⟨lw_p45, List.forall_mem_cons.mpr ⟨lw_p46, List.forall_mem_cons.mpr ⟨lw_p47, fun _ h => absurd h List.not_mem_nil⟩⟩⟩⟩⟩⟩⟩⟩⟩⟩⟩⟩⟩⟩⟩⟩
theorem lw_p48 : lw_okq (⟨"WantPlotsModel", "takesTakes", "(I)Z"⟩, 45) := ⟨⟨by decide +kernel, by decide +kernel⟩, List.mem_of_getElem? (i := 695) (by decide +kernel), List.mem_of_getElem? (i := 895) (by decide +kernel), List.mem_of_getElem? (i := 896) (by decide +kernel)⟩
theorem lw_p49 : lw_okq (⟨"WantPlotsModel", "takesPerson", "(I)Z"⟩, 45) := ⟨⟨by decide +kernel, by decide +kernel⟩, List.mem_of_getElem? (i := 695) (by decide +kernel), List.mem_of_getElem? (i := 899) (by decide +kernel), List.mem_of_getElem? (i := 900) (by decide +kernel)⟩
theorem lw_p50 : lw_okq (⟨"WantPlotsModel", "takesKind", "(I)Z"⟩, 45) := ⟨⟨by decide +kernel, by decide +kernel⟩, List.mem_of_getElem? (i := 695) (by decide +kernel), List.mem_of_getElem? (i := 903) (by decide +kernel), List.mem_of_getElem? (i := 904) (by decide +kernel)⟩
theorem lw_p51 : lw_okq (⟨"WantPlotsModel", "takesSign", "(I)Z"⟩, 45) := ⟨⟨by decide +kernel, by decide +kernel⟩, List.mem_of_getElem? (i := 695) (by decide +kernel), List.mem_of_getElem? (i := 907) (by decide +kernel), List.mem_of_getElem? (i := 908) (by decide +kernel)⟩
theorem lw_p52 : lw_okq (⟨"WantPlotsModel", "takesWant", "(I)Z"⟩, 45) := ⟨⟨by decide +kernel, by decide +kernel⟩, List.mem_of_getElem? (i := 695) (by decide +kernel), List.mem_of_getElem? (i := 911) (by decide +kernel), List.mem_of_getElem? (i := 912) (by decide +kernel)⟩
theorem lw_p53 : lw_okq (⟨"WantPlotsModel", "isWorld", "()Z"⟩, 45) := ⟨⟨by decide +kernel, by decide +kernel⟩, List.mem_of_getElem? (i := 695) (by decide +kernel), List.mem_of_getElem? (i := 923) (by decide +kernel), List.mem_of_getElem? (i := 924) (by decide +kernel)⟩
theorem lw_p54 : lw_okq (⟨"WantPlotsModel", "goNow", "(I)I"⟩, 45) := ⟨⟨by decide +kernel, by decide +kernel⟩, List.mem_of_getElem? (i := 695) (by decide +kernel), List.mem_of_getElem? (i := 927) (by decide +kernel), List.mem_of_getElem? (i := 928) (by decide +kernel)⟩
theorem lw_p55 : lw_okq (⟨"WantPlotsModel", "passTurn", "()V"⟩, 45) := ⟨⟨by decide +kernel, by decide +kernel⟩, List.mem_of_getElem? (i := 695) (by decide +kernel), List.mem_of_getElem? (i := 931) (by decide +kernel), List.mem_of_getElem? (i := 932) (by decide +kernel)⟩
theorem lw_p56 : lw_okq (⟨"WantPlotsModel", "wouldDo", "(II)I"⟩, 45) := ⟨⟨by decide +kernel, by decide +kernel⟩, List.mem_of_getElem? (i := 695) (by decide +kernel), List.mem_of_getElem? (i := 935) (by decide +kernel), List.mem_of_getElem? (i := 936) (by decide +kernel)⟩
theorem lw_p57 : lw_okq (⟨"WantPlotsModel", "isWanted", "(II)Z"⟩, 45) := ⟨⟨by decide +kernel, by decide +kernel⟩, List.mem_of_getElem? (i := 695) (by decide +kernel), List.mem_of_getElem? (i := 939) (by decide +kernel), List.mem_of_getElem? (i := 940) (by decide +kernel)⟩
theorem lw_p58 : lw_okq (⟨"WantPlotsModel", "foilFirst", "(I)I"⟩, 45) := ⟨⟨by decide +kernel, by decide +kernel⟩, List.mem_of_getElem? (i := 695) (by decide +kernel), List.mem_of_getElem? (i := 943) (by decide +kernel), List.mem_of_getElem? (i := 944) (by decide +kernel)⟩
theorem lw_p59 : lw_okq (⟨"WantPlotsModel", "layPlan", "(I)V"⟩, 45) := ⟨⟨by decide +kernel, by decide +kernel⟩, List.mem_of_getElem? (i := 695) (by decide +kernel), List.mem_of_getElem? (i := 947) (by decide +kernel), List.mem_of_getElem? (i := 948) (by decide +kernel)⟩
theorem lw_p60 : lw_okq (⟨"WantPlotsModel", "actsOf", "(I)I"⟩, 45) := ⟨⟨by decide +kernel, by decide +kernel⟩, List.mem_of_getElem? (i := 695) (by decide +kernel), List.mem_of_getElem? (i := 951) (by decide +kernel), List.mem_of_getElem? (i := 952) (by decide +kernel)⟩
theorem lw_p61 : lw_okq (⟨"WantPlotsModel", "timesDone", "(I)I"⟩, 45) := ⟨⟨by decide +kernel, by decide +kernel⟩, List.mem_of_getElem? (i := 695) (by decide +kernel), List.mem_of_getElem? (i := 955) (by decide +kernel), List.mem_of_getElem? (i := 956) (by decide +kernel)⟩
theorem lw_p62 : lw_okq (⟨"WantPlotsModel", "layFew", "(I)V"⟩, 45) := ⟨⟨by decide +kernel, by decide +kernel⟩, List.mem_of_getElem? (i := 695) (by decide +kernel), List.mem_of_getElem? (i := 959) (by decide +kernel), List.mem_of_getElem? (i := 960) (by decide +kernel)⟩
theorem lw_p63 : lw_okq (⟨"WantPlotsModel", "lessFrom", "(I)I"⟩, 45) := ⟨⟨by decide +kernel, by decide +kernel⟩, List.mem_of_getElem? (i := 695) (by decide +kernel), List.mem_of_getElem? (i := 963) (by decide +kernel), List.mem_of_getElem? (i := 964) (by decide +kernel)⟩
def lw_privs_4 : List (MethodName × Nat) := [(⟨"WantPlotsModel", "takesTakes", "(I)Z"⟩, 45), (⟨"WantPlotsModel", "takesPerson", "(I)Z"⟩, 45), (⟨"WantPlotsModel", "takesKind", "(I)Z"⟩, 45), (⟨"WantPlotsModel", "takesSign", "(I)Z"⟩, 45), (⟨"WantPlotsModel", "takesWant", "(I)Z"⟩, 45), (⟨"WantPlotsModel", "isWorld", "()Z"⟩, 45), (⟨"WantPlotsModel", "goNow", "(I)I"⟩, 45), (⟨"WantPlotsModel", "passTurn", "()V"⟩, 45), (⟨"WantPlotsModel", "wouldDo", "(II)I"⟩, 45), (⟨"WantPlotsModel", "isWanted", "(II)Z"⟩, 45), (⟨"WantPlotsModel", "foilFirst", "(I)I"⟩, 45), (⟨"WantPlotsModel", "layPlan", "(I)V"⟩, 45), (⟨"WantPlotsModel", "actsOf", "(I)I"⟩, 45), (⟨"WantPlotsModel", "timesDone", "(I)I"⟩, 45), (⟨"WantPlotsModel", "layFew", "(I)V"⟩, 45), (⟨"WantPlotsModel", "lessFrom", "(I)I"⟩, 45)]
theorem lw_r4 : ∀ q ∈ lw_privs_4, lw_okq q := List.forall_mem_cons.mpr ⟨lw_p48, List.forall_mem_cons.mpr ⟨lw_p49, List.forall_mem_cons.mpr ⟨lw_p50, List.forall_mem_cons.mpr ⟨lw_p51, List.forall_mem_cons.mpr ⟨lw_p52, List.forall_mem_cons.mpr ⟨lw_p53, List.forall_mem_cons.mpr ⟨lw_p54, List.forall_mem_cons.mpr ⟨lw_p55, List.forall_mem_cons.mpr ⟨lw_p56, List.forall_mem_cons.mpr ⟨lw_p57, List.forall_mem_cons.mpr ⟨lw_p58, List.forall_mem_cons.mpr ⟨lw_p59, List.forall_mem_cons.mpr ⟨lw_p60, List.forall_mem_cons.mpr ⟨lw_p61, List.forall_mem_cons.mpr ⟨lw_p62, List.forall_mem_cons.mpr ⟨lw_p63, fun _ h => absurd h List.not_mem_nil⟩⟩⟩⟩⟩⟩⟩⟩⟩⟩⟩⟩⟩⟩⟩⟩
theorem lw_p64 : lw_okq (⟨"WantPlotsModel", "canDo", "(II)Z"⟩, 45) := ⟨⟨by decide +kernel, by decide +kernel⟩, List.mem_of_getElem? (i := 695) (by decide +kernel), List.mem_of_getElem? (i := 967) (by decide +kernel), List.mem_of_getElem? (i := 968) (by decide +kernel)⟩
theorem lw_p65 : lw_okq (⟨"WantPlotsModel", "behind", "(II)I"⟩, 45) := ⟨⟨by decide +kernel, by decide +kernel⟩, List.mem_of_getElem? (i := 695) (by decide +kernel), List.mem_of_getElem? (i := 971) (by decide +kernel), List.mem_of_getElem? (i := 972) (by decide +kernel)⟩
theorem lw_p66 : lw_okq (⟨"WantPlotsModel", "laidMany", "()I"⟩, 45) := ⟨⟨by decide +kernel, by decide +kernel⟩, List.mem_of_getElem? (i := 695) (by decide +kernel), List.mem_of_getElem? (i := 975) (by decide +kernel), List.mem_of_getElem? (i := 976) (by decide +kernel)⟩
theorem lw_p67 : lw_okq (⟨"WantPlotsModel", "layFoil", "(II)V"⟩, 45) := ⟨⟨by decide +kernel, by decide +kernel⟩, List.mem_of_getElem? (i := 695) (by decide +kernel), List.mem_of_getElem? (i := 979) (by decide +kernel), List.mem_of_getElem? (i := 980) (by decide +kernel)⟩
theorem lw_p68 : lw_okq (⟨"WantPlotsModel", "laidAct", "(I)I"⟩, 45) := ⟨⟨by decide +kernel, by decide +kernel⟩, List.mem_of_getElem? (i := 695) (by decide +kernel), List.mem_of_getElem? (i := 983) (by decide +kernel), List.mem_of_getElem? (i := 984) (by decide +kernel)⟩
theorem lw_p69 : lw_okq (⟨"WantPlotsModel", "nextAct", "(I)I"⟩, 45) := ⟨⟨by decide +kernel, by decide +kernel⟩, List.mem_of_getElem? (i := 695) (by decide +kernel), List.mem_of_getElem? (i := 987) (by decide +kernel), List.mem_of_getElem? (i := 988) (by decide +kernel)⟩
theorem lw_p70 : lw_okq (⟨"WantPlotsModel", "addStep", "(III)V"⟩, 45) := ⟨⟨by decide +kernel, by decide +kernel⟩, List.mem_of_getElem? (i := 695) (by decide +kernel), List.mem_of_getElem? (i := 991) (by decide +kernel), List.mem_of_getElem? (i := 992) (by decide +kernel)⟩
theorem lw_p71 : lw_okq (⟨"WantPlotsModel", "isAct", "(I)Z"⟩, 45) := ⟨⟨by decide +kernel, by decide +kernel⟩, List.mem_of_getElem? (i := 695) (by decide +kernel), List.mem_of_getElem? (i := 1003) (by decide +kernel), List.mem_of_getElem? (i := 1004) (by decide +kernel)⟩
theorem lw_p72 : lw_okq (⟨"WantPlotsModel", "aboutNow", "(I)I"⟩, 45) := ⟨⟨by decide +kernel, by decide +kernel⟩, List.mem_of_getElem? (i := 695) (by decide +kernel), List.mem_of_getElem? (i := 1015) (by decide +kernel), List.mem_of_getElem? (i := 1016) (by decide +kernel)⟩
theorem lw_p73 : lw_okq (⟨"WantPlotsModel", "wantsIn", "(I)I"⟩, 45) := ⟨⟨by decide +kernel, by decide +kernel⟩, List.mem_of_getElem? (i := 695) (by decide +kernel), List.mem_of_getElem? (i := 1019) (by decide +kernel), List.mem_of_getElem? (i := 1020) (by decide +kernel)⟩
theorem lw_p74 : lw_okq (⟨"WantPlotsModel", "isOne", "(I)Z"⟩, 45) := ⟨⟨by decide +kernel, by decide +kernel⟩, List.mem_of_getElem? (i := 695) (by decide +kernel), List.mem_of_getElem? (i := 1027) (by decide +kernel), List.mem_of_getElem? (i := 1028) (by decide +kernel)⟩
theorem lw_p75 : lw_okq (⟨"WantPlotsModel", "oneNow", "(II)I"⟩, 45) := ⟨⟨by decide +kernel, by decide +kernel⟩, List.mem_of_getElem? (i := 695) (by decide +kernel), List.mem_of_getElem? (i := 1031) (by decide +kernel), List.mem_of_getElem? (i := 1032) (by decide +kernel)⟩
theorem lw_p76 : lw_okq (⟨"WantPlotsModel", "stepsBy", "(I)I"⟩, 45) := ⟨⟨by decide +kernel, by decide +kernel⟩, List.mem_of_getElem? (i := 695) (by decide +kernel), List.mem_of_getElem? (i := 1035) (by decide +kernel), List.mem_of_getElem? (i := 1036) (by decide +kernel)⟩
theorem lw_p77 : lw_okq (⟨"WantPlotsModel", "planNow", "(II)I"⟩, 45) := ⟨⟨by decide +kernel, by decide +kernel⟩, List.mem_of_getElem? (i := 695) (by decide +kernel), List.mem_of_getElem? (i := 1039) (by decide +kernel), List.mem_of_getElem? (i := 1040) (by decide +kernel)⟩
theorem lw_p78 : lw_okq (⟨"WantPlotsModel", "foilNow", "(III)I"⟩, 45) := ⟨⟨by decide +kernel, by decide +kernel⟩, List.mem_of_getElem? (i := 695) (by decide +kernel), List.mem_of_getElem? (i := 1051) (by decide +kernel), List.mem_of_getElem? (i := 1052) (by decide +kernel)⟩
theorem lw_p79 : lw_okq (⟨"WantPlotsModel", "deedNow", "(II)I"⟩, 45) := ⟨⟨by decide +kernel, by decide +kernel⟩, List.mem_of_getElem? (i := 695) (by decide +kernel), List.mem_of_getElem? (i := 1059) (by decide +kernel), List.mem_of_getElem? (i := 1060) (by decide +kernel)⟩
def lw_privs_5 : List (MethodName × Nat) := [(⟨"WantPlotsModel", "canDo", "(II)Z"⟩, 45), (⟨"WantPlotsModel", "behind", "(II)I"⟩, 45), (⟨"WantPlotsModel", "laidMany", "()I"⟩, 45), (⟨"WantPlotsModel", "layFoil", "(II)V"⟩, 45), (⟨"WantPlotsModel", "laidAct", "(I)I"⟩, 45), (⟨"WantPlotsModel", "nextAct", "(I)I"⟩, 45), (⟨"WantPlotsModel", "addStep", "(III)V"⟩, 45), (⟨"WantPlotsModel", "isAct", "(I)Z"⟩, 45), (⟨"WantPlotsModel", "aboutNow", "(I)I"⟩, 45), (⟨"WantPlotsModel", "wantsIn", "(I)I"⟩, 45), (⟨"WantPlotsModel", "isOne", "(I)Z"⟩, 45), (⟨"WantPlotsModel", "oneNow", "(II)I"⟩, 45), (⟨"WantPlotsModel", "stepsBy", "(I)I"⟩, 45), (⟨"WantPlotsModel", "planNow", "(II)I"⟩, 45), (⟨"WantPlotsModel", "foilNow", "(III)I"⟩, 45), (⟨"WantPlotsModel", "deedNow", "(II)I"⟩, 45)]
theorem lw_r5 : ∀ q ∈ lw_privs_5, lw_okq q := List.forall_mem_cons.mpr ⟨lw_p64, List.forall_mem_cons.mpr ⟨lw_p65, List.forall_mem_cons.mpr ⟨lw_p66, List.forall_mem_cons.mpr ⟨lw_p67, List.forall_mem_cons.mpr ⟨lw_p68, List.forall_mem_cons.mpr ⟨lw_p69, List.forall_mem_cons.mpr ⟨lw_p70, List.forall_mem_cons.mpr ⟨lw_p71, List.forall_mem_cons.mpr ⟨lw_p72, List.forall_mem_cons.mpr ⟨lw_p73, List.forall_mem_cons.mpr ⟨lw_p74, List.forall_mem_cons.mpr ⟨lw_p75, List.forall_mem_cons.mpr ⟨lw_p76, List.forall_mem_cons.mpr ⟨lw_p77, List.forall_mem_cons.mpr ⟨lw_p78, List.forall_mem_cons.mpr ⟨lw_p79, fun _ h => absurd h List.not_mem_nil⟩⟩⟩⟩⟩⟩⟩⟩⟩⟩⟩⟩⟩⟩⟩⟩
theorem lw_p80 : lw_okq (⟨"WantPlotsModel", "stepTold", "(II)I"⟩, 45) := ⟨⟨by decide +kernel, by decide +kernel⟩, List.mem_of_getElem? (i := 695) (by decide +kernel), List.mem_of_getElem? (i := 1067) (by decide +kernel), List.mem_of_getElem? (i := 1068) (by decide +kernel)⟩
theorem lw_p81 : lw_okq (⟨"WantPlotsModel", "layLinks", "()V"⟩, 45) := ⟨⟨by decide +kernel, by decide +kernel⟩, List.mem_of_getElem? (i := 695) (by decide +kernel), List.mem_of_getElem? (i := 1071) (by decide +kernel), List.mem_of_getElem? (i := 1072) (by decide +kernel)⟩
theorem lw_p82 : lw_okq (⟨"WantPlotsModel", "linksOf", "(I)I"⟩, 45) := ⟨⟨by decide +kernel, by decide +kernel⟩, List.mem_of_getElem? (i := 695) (by decide +kernel), List.mem_of_getElem? (i := 1075) (by decide +kernel), List.mem_of_getElem? (i := 1076) (by decide +kernel)⟩
theorem lw_p83 : lw_okq (⟨"WantPlotsModel", "latest", "(IIZ)I"⟩, 45) := ⟨⟨by decide +kernel, by decide +kernel⟩, List.mem_of_getElem? (i := 695) (by decide +kernel), List.mem_of_getElem? (i := 1079) (by decide +kernel), List.mem_of_getElem? (i := 1080) (by decide +kernel)⟩
theorem lw_p84 : lw_okq (⟨"WantPlotsModel", "joins", "(II)Z"⟩, 45) := ⟨⟨by decide +kernel, by decide +kernel⟩, List.mem_of_getElem? (i := 695) (by decide +kernel), List.mem_of_getElem? (i := 1083) (by decide +kernel), List.mem_of_getElem? (i := 1084) (by decide +kernel)⟩
theorem lw_p85 : lw_okq (⟨"WantPlotsModel", "stepNow", "(II)I"⟩, 45) := ⟨⟨by decide +kernel, by decide +kernel⟩, List.mem_of_getElem? (i := 695) (by decide +kernel), List.mem_of_getElem? (i := 1087) (by decide +kernel), List.mem_of_getElem? (i := 1088) (by decide +kernel)⟩
theorem lw_p86 : lw_okq (⟨"WantPlotsModel", "threadsAhead", "(I)I"⟩, 45) := ⟨⟨by decide +kernel, by decide +kernel⟩, List.mem_of_getElem? (i := 695) (by decide +kernel), List.mem_of_getElem? (i := 1094) (by decide +kernel), List.mem_of_getElem? (i := 1095) (by decide +kernel)⟩
theorem lw_p87 : lw_okq (⟨"WantPlotsModel", "allSteps", "()I"⟩, 45) := ⟨⟨by decide +kernel, by decide +kernel⟩, List.mem_of_getElem? (i := 695) (by decide +kernel), List.mem_of_getElem? (i := 1098) (by decide +kernel), List.mem_of_getElem? (i := 1099) (by decide +kernel)⟩
theorem lw_p88 : lw_okq (⟨"WantPlotsModel", "isDull", "(II)Z"⟩, 45) := ⟨⟨by decide +kernel, by decide +kernel⟩, List.mem_of_getElem? (i := 695) (by decide +kernel), List.mem_of_getElem? (i := 1102) (by decide +kernel), List.mem_of_getElem? (i := 1103) (by decide +kernel)⟩
theorem lw_p89 : lw_okq (⟨"WantPlotsModel", "storyNow", "(I)I"⟩, 45) := ⟨⟨by decide +kernel, by decide +kernel⟩, List.mem_of_getElem? (i := 695) (by decide +kernel), List.mem_of_getElem? (i := 1110) (by decide +kernel), List.mem_of_getElem? (i := 1111) (by decide +kernel)⟩
theorem lw_p90 : lw_okq (⟨"WantPlotsModel", "dullMany", "()I"⟩, 45) := ⟨⟨by decide +kernel, by decide +kernel⟩, List.mem_of_getElem? (i := 695) (by decide +kernel), List.mem_of_getElem? (i := 1114) (by decide +kernel), List.mem_of_getElem? (i := 1115) (by decide +kernel)⟩
theorem lw_p91 : lw_okq (⟨"WantPlotsModel", "cut", "()I"⟩, 45) := ⟨⟨by decide +kernel, by decide +kernel⟩, List.mem_of_getElem? (i := 695) (by decide +kernel), List.mem_of_getElem? (i := 1118) (by decide +kernel), List.mem_of_getElem? (i := 1119) (by decide +kernel)⟩
theorem lw_p92 : lw_okq (⟨"WantPlotsModel", "firstDull", "(I)I"⟩, 45) := ⟨⟨by decide +kernel, by decide +kernel⟩, List.mem_of_getElem? (i := 695) (by decide +kernel), List.mem_of_getElem? (i := 1122) (by decide +kernel), List.mem_of_getElem? (i := 1123) (by decide +kernel)⟩
theorem lw_p93 : lw_okq (⟨"WantPlotsModel", "linksMany", "()I"⟩, 45) := ⟨⟨by decide +kernel, by decide +kernel⟩, List.mem_of_getElem? (i := 695) (by decide +kernel), List.mem_of_getElem? (i := 1129) (by decide +kernel), List.mem_of_getElem? (i := 1130) (by decide +kernel)⟩
theorem lw_p94 : lw_okq (⟨"WantPlotsModel", "farthest", "()I"⟩, 45) := ⟨⟨by decide +kernel, by decide +kernel⟩, List.mem_of_getElem? (i := 695) (by decide +kernel), List.mem_of_getElem? (i := 1133) (by decide +kernel), List.mem_of_getElem? (i := 1134) (by decide +kernel)⟩
theorem lw_p95 : lw_okq (⟨"WantPlotsModel", "togetherNow", "(I)I"⟩, 45) := ⟨⟨by decide +kernel, by decide +kernel⟩, List.mem_of_getElem? (i := 695) (by decide +kernel), List.mem_of_getElem? (i := 1141) (by decide +kernel), List.mem_of_getElem? (i := 1142) (by decide +kernel)⟩
def lw_privs_6 : List (MethodName × Nat) := [(⟨"WantPlotsModel", "stepTold", "(II)I"⟩, 45), (⟨"WantPlotsModel", "layLinks", "()V"⟩, 45), (⟨"WantPlotsModel", "linksOf", "(I)I"⟩, 45), (⟨"WantPlotsModel", "latest", "(IIZ)I"⟩, 45), (⟨"WantPlotsModel", "joins", "(II)Z"⟩, 45), (⟨"WantPlotsModel", "stepNow", "(II)I"⟩, 45), (⟨"WantPlotsModel", "threadsAhead", "(I)I"⟩, 45), (⟨"WantPlotsModel", "allSteps", "()I"⟩, 45), (⟨"WantPlotsModel", "isDull", "(II)Z"⟩, 45), (⟨"WantPlotsModel", "storyNow", "(I)I"⟩, 45), (⟨"WantPlotsModel", "dullMany", "()I"⟩, 45), (⟨"WantPlotsModel", "cut", "()I"⟩, 45), (⟨"WantPlotsModel", "firstDull", "(I)I"⟩, 45), (⟨"WantPlotsModel", "linksMany", "()I"⟩, 45), (⟨"WantPlotsModel", "farthest", "()I"⟩, 45), (⟨"WantPlotsModel", "togetherNow", "(I)I"⟩, 45)]
theorem lw_r6 : ∀ q ∈ lw_privs_6, lw_okq q := List.forall_mem_cons.mpr ⟨lw_p80, List.forall_mem_cons.mpr ⟨lw_p81, List.forall_mem_cons.mpr ⟨lw_p82, List.forall_mem_cons.mpr ⟨lw_p83, List.forall_mem_cons.mpr ⟨lw_p84, List.forall_mem_cons.mpr ⟨lw_p85, List.forall_mem_cons.mpr ⟨lw_p86, List.forall_mem_cons.mpr ⟨lw_p87, List.forall_mem_cons.mpr ⟨lw_p88, List.forall_mem_cons.mpr ⟨lw_p89, List.forall_mem_cons.mpr ⟨lw_p90, List.forall_mem_cons.mpr ⟨lw_p91, List.forall_mem_cons.mpr ⟨lw_p92, List.forall_mem_cons.mpr ⟨lw_p93, List.forall_mem_cons.mpr ⟨lw_p94, List.forall_mem_cons.mpr ⟨lw_p95, fun _ h => absurd h List.not_mem_nil⟩⟩⟩⟩⟩⟩⟩⟩⟩⟩⟩⟩⟩⟩⟩⟩
theorem lw_p96 : lw_okq (⟨"WantPlotsModel", "layTogether", "()V"⟩, 45) := ⟨⟨by decide +kernel, by decide +kernel⟩, List.mem_of_getElem? (i := 695) (by decide +kernel), List.mem_of_getElem? (i := 1145) (by decide +kernel), List.mem_of_getElem? (i := 1146) (by decide +kernel)⟩
theorem lw_p97 : lw_okq (⟨"WantPlotsModel", "waysNow", "(I)I"⟩, 45) := ⟨⟨by decide +kernel, by decide +kernel⟩, List.mem_of_getElem? (i := 695) (by decide +kernel), List.mem_of_getElem? (i := 1153) (by decide +kernel), List.mem_of_getElem? (i := 1154) (by decide +kernel)⟩
theorem lw_p98 : lw_okq (⟨"WantPlotsModel", "layMore", "()V"⟩, 45) := ⟨⟨by decide +kernel, by decide +kernel⟩, List.mem_of_getElem? (i := 695) (by decide +kernel), List.mem_of_getElem? (i := 1157) (by decide +kernel), List.mem_of_getElem? (i := 1158) (by decide +kernel)⟩
theorem lw_p99 : lw_okq (⟨"WantPlotsModel", "howMany", "(I)I"⟩, 45) := ⟨⟨by decide +kernel, by decide +kernel⟩, List.mem_of_getElem? (i := 695) (by decide +kernel), List.mem_of_getElem? (i := 1166) (by decide +kernel), List.mem_of_getElem? (i := 1167) (by decide +kernel)⟩
theorem lw_p100 : lw_okq (⟨"WantPlotsModel", "mixPeople", "()V"⟩, 45) := ⟨⟨by decide +kernel, by decide +kernel⟩, List.mem_of_getElem? (i := 695) (by decide +kernel), List.mem_of_getElem? (i := 1175) (by decide +kernel), List.mem_of_getElem? (i := 1176) (by decide +kernel)⟩
theorem lw_p101 : lw_okq (⟨"WantPlotsModel", "mix", "(J)V"⟩, 45) := ⟨⟨by decide +kernel, by decide +kernel⟩, List.mem_of_getElem? (i := 695) (by decide +kernel), List.mem_of_getElem? (i := 1179) (by decide +kernel), List.mem_of_getElem? (i := 1180) (by decide +kernel)⟩
theorem lw_p102 : lw_okq (⟨"WantPlotsModel", "mixStory", "()V"⟩, 45) := ⟨⟨by decide +kernel, by decide +kernel⟩, List.mem_of_getElem? (i := 695) (by decide +kernel), List.mem_of_getElem? (i := 1184) (by decide +kernel), List.mem_of_getElem? (i := 1185) (by decide +kernel)⟩
def lw_privs_7 : List (MethodName × Nat) := [(⟨"WantPlotsModel", "layTogether", "()V"⟩, 45), (⟨"WantPlotsModel", "waysNow", "(I)I"⟩, 45), (⟨"WantPlotsModel", "layMore", "()V"⟩, 45), (⟨"WantPlotsModel", "howMany", "(I)I"⟩, 45), (⟨"WantPlotsModel", "mixPeople", "()V"⟩, 45), (⟨"WantPlotsModel", "mix", "(J)V"⟩, 45), (⟨"WantPlotsModel", "mixStory", "()V"⟩, 45)]
theorem lw_r7 : ∀ q ∈ lw_privs_7, lw_okq q := List.forall_mem_cons.mpr ⟨lw_p96, List.forall_mem_cons.mpr ⟨lw_p97, List.forall_mem_cons.mpr ⟨lw_p98, List.forall_mem_cons.mpr ⟨lw_p99, List.forall_mem_cons.mpr ⟨lw_p100, List.forall_mem_cons.mpr ⟨lw_p101, List.forall_mem_cons.mpr ⟨lw_p102, fun _ h => absurd h List.not_mem_nil⟩⟩⟩⟩⟩⟩⟩
def lw_privs : List (MethodName × Nat) := lw_privs_1 ++ (lw_privs_2 ++ (lw_privs_3 ++ (lw_privs_4 ++ (lw_privs_5 ++ (lw_privs_6 ++ (lw_privs_7))))))
def lw_tbl : List Cond := k2_sels lw_privs ++ tables_1
theorem lw_privs_ok : ∀ q ∈ lw_privs, lw_okq q := by
  show ∀ q ∈ lw_privs_1 ++ (lw_privs_2 ++ (lw_privs_3 ++ (lw_privs_4 ++ (lw_privs_5 ++ (lw_privs_6 ++ (lw_privs_7)))))), lw_okq q
  exact List.forall_mem_append.mpr ⟨lw_r1, List.forall_mem_append.mpr ⟨lw_r2, List.forall_mem_append.mpr ⟨lw_r3, List.forall_mem_append.mpr ⟨lw_r4, List.forall_mem_append.mpr ⟨lw_r5, List.forall_mem_append.mpr ⟨lw_r6, lw_r7⟩⟩⟩⟩⟩⟩
def RX0 : String := "WantPlots$Counter"
def TX0 : u_T := fun k => match k with
  | 0 => ("WantPlots$Counter", "ending", "[I", false)
  | _ => ("WantPlots$Counter", "longer", "[I", false)
def tyX0 : Nat → FieldType := fun k => match k with
  | 0 => .array .int
  | _ => .array .int
abbrev wsX00 : List Cond := u_ws RX0 TX0 2
theorem nmX0 : ∀ a, a < 2 → ∀ b, b < 2 → a ≠ b → (TX0 a).2.1 ≠ (TX0 b).2.1 := by decide +kernel
theorem tyX0_ok : ∀ k, k < 2 → parseFieldDescriptor (TX0 k).2.2.1 = some (tyX0 k) := by decide +kernel
abbrev cX0_init : ByteArray := prog_2_method_1_code
def yX0_init : MethodName := ⟨RX0, "<init>", "()V"⟩
abbrev cX0_waysToAll : ByteArray := prog_2_method_2_code
def yX0_waysToAll : MethodName := ⟨RX0, "waysToAll", "(LWantPlots$World;II)I"⟩
abbrev cX0_lengthen : ByteArray := prog_2_method_3_code
def yX0_lengthen : MethodName := ⟨RX0, "lengthen", "(LWantPlots$World;)V"⟩
abbrev cX0_lengthenFrom : ByteArray := prog_2_method_4_code
def yX0_lengthenFrom : MethodName := ⟨RX0, "lengthenFrom", "(LWantPlots$World;I)V"⟩
abbrev cX0_wipe : ByteArray := prog_2_method_5_code
def yX0_wipe : MethodName := ⟨RX0, "wipe", "([I)V"⟩
def RX1 : String := "WantPlots$Page"
def TX1 : u_T := fun k => match k with
  | 0 => ("WantPlots$Page", "codes", "[I", true)
  | _ => ("WantPlots$Page", "length", "I", false)
def tyX1 : Nat → FieldType := fun k => match k with
  | 0 => .array .int
  | _ => .int
abbrev wsX10 : List Cond := u_ws RX1 TX1 2
theorem nmX1 : ∀ a, a < 2 → ∀ b, b < 2 → a ≠ b → (TX1 a).2.1 ≠ (TX1 b).2.1 := by decide +kernel
theorem tyX1_ok : ∀ k, k < 2 → parseFieldDescriptor (TX1 k).2.2.1 = some (tyX1 k) := by decide +kernel
abbrev cX1_init : ByteArray := prog_3_method_1_code
def yX1_init : MethodName := ⟨RX1, "<init>", "()V"⟩
abbrev cX1_append : ByteArray := prog_3_method_2_code
def yX1_append : MethodName := ⟨RX1, "append", "(I)V"⟩
def RX2 : String := "WantPlots$Reader"
def TX2 : u_T := fun k => match k with
  | 0 => ("WantPlots$Reader", "part", "I", false)
  | 1 => ("WantPlots$Reader", "latest", "I", false)
  | _ => ("WantPlots$Reader", "goalIsTrue", "Z", false)
def tyX2 : Nat → FieldType := fun k => match k with
  | 0 => .int
  | 1 => .int
  | _ => .boolean
abbrev wsX20 : List Cond := u_ws RX2 TX2 3
theorem nmX2 : ∀ a, a < 3 → ∀ b, b < 3 → a ≠ b → (TX2 a).2.1 ≠ (TX2 b).2.1 := by decide +kernel
theorem tyX2_ok : ∀ k, k < 3 → parseFieldDescriptor (TX2 k).2.2.1 = some (tyX2 k) := by decide +kernel
abbrev cX2_init : ByteArray := prog_4_method_1_code
def yX2_init : MethodName := ⟨RX2, "<init>", "()V"⟩
abbrev cX2_read : ByteArray := prog_4_method_2_code
def yX2_read : MethodName := ⟨RX2, "read", "(LWantPlots$Page;LWantPlots$World;)I"⟩
abbrev cX2_isComplete : ByteArray := prog_4_method_3_code
def yX2_isComplete : MethodName := ⟨RX2, "isComplete", "(LWantPlots$World;)Z"⟩
abbrev cX2_moveTo : ByteArray := prog_4_method_4_code
def yX2_moveTo : MethodName := ⟨RX2, "moveTo", "(I)Z"⟩
abbrev cX2_takes : ByteArray := prog_4_method_5_code
def yX2_takes : MethodName := ⟨RX2, "takes", "(LWantPlots$World;I)Z"⟩
abbrev cX2_takesInAct : ByteArray := prog_4_method_6_code
def yX2_takesInAct : MethodName := ⟨RX2, "takesInAct", "(LWantPlots$World;I)Z"⟩
abbrev cX2_takesKind : ByteArray := prog_4_method_7_code
def yX2_takesKind : MethodName := ⟨RX2, "takesKind", "(LWantPlots$World;I)Z"⟩
abbrev cX2_takesSign : ByteArray := prog_4_method_8_code
def yX2_takesSign : MethodName := ⟨RX2, "takesSign", "(I)Z"⟩
abbrev cX2_takesGoal : ByteArray := prog_4_method_9_code
def yX2_takesGoal : MethodName := ⟨RX2, "takesGoal", "(LWantPlots$World;I)Z"⟩
abbrev cX2_takesAfterGoal : ByteArray := prog_4_method_10_code
def yX2_takesAfterGoal : MethodName := ⟨RX2, "takesAfterGoal", "(LWantPlots$World;I)Z"⟩
abbrev cX2_takesFirstFact : ByteArray := prog_4_method_11_code
def yX2_takesFirstFact : MethodName := ⟨RX2, "takesFirstFact", "(LWantPlots$World;I)Z"⟩
abbrev cX2_takesOwner : ByteArray := prog_4_method_12_code
def yX2_takesOwner : MethodName := ⟨RX2, "takesOwner", "(LWantPlots$World;I)Z"⟩
abbrev cX2_takesInNeeds : ByteArray := prog_4_method_13_code
def yX2_takesInNeeds : MethodName := ⟨RX2, "takesInNeeds", "(LWantPlots$World;II)Z"⟩
abbrev cX2_takesInMakes : ByteArray := prog_4_method_14_code
def yX2_takesInMakes : MethodName := ⟨RX2, "takesInMakes", "(LWantPlots$World;II)Z"⟩
abbrev cX2_takesFact : ByteArray := prog_4_method_15_code
def yX2_takesFact : MethodName := ⟨RX2, "takesFact", "([IIII)Z"⟩
abbrev cX2_isNext : ByteArray := prog_4_method_16_code
def yX2_isNext : MethodName := ⟨RX2, "isNext", "(I)Z"⟩
abbrev cX2_factOf : ByteArray := prog_4_method_17_code
def yX2_factOf : MethodName := ⟨RX2, "factOf", "(I)I"⟩
def RX3 : String := "WantPlots$Search"
def TX3 : u_T := fun k => match k with
  | 0 => ("WantPlots$Search", "queue", "[I", true)
  | 1 => ("WantPlots$Search", "size", "I", false)
  | 2 => ("WantPlots$Search", "length", "I", false)
  | 3 => ("WantPlots$Search", "from", "[I", true)
  | 4 => ("WantPlots$Search", "by", "[I", true)
  | 5 => ("WantPlots$Search", "depth", "[I", true)
  | 6 => ("WantPlots$Search", "path", "[I", true)
  | 7 => ("WantPlots$Search", "reached", "[I", true)
  | _ => ("WantPlots$Search", "number", "I", false)
def tyX3 : Nat → FieldType := fun k => match k with
  | 0 => .array .int
  | 1 => .int
  | 2 => .int
  | 3 => .array .int
  | 4 => .array .int
  | 5 => .array .int
  | 6 => .array .int
  | 7 => .array .int
  | _ => .int
abbrev wsX30 : List Cond := u_ws RX3 TX3 9
theorem nmX3 : ∀ a, a < 9 → ∀ b, b < 9 → a ≠ b → (TX3 a).2.1 ≠ (TX3 b).2.1 := by decide +kernel
theorem tyX3_ok : ∀ k, k < 9 → parseFieldDescriptor (TX3 k).2.2.1 = some (tyX3 k) := by decide +kernel
abbrev cX3_init : ByteArray := prog_5_method_1_code
def yX3_init : MethodName := ⟨RX3, "<init>", "()V"⟩
abbrev cX3_begin : ByteArray := prog_5_method_2_code
def yX3_begin : MethodName := ⟨RX3, "begin", "(I)V"⟩
abbrev cX3_seek : ByteArray := prog_5_method_3_code
def yX3_seek : MethodName := ⟨RX3, "seek", "(LWantPlots$World;IIII)V"⟩
abbrev cX3_spread : ByteArray := prog_5_method_4_code
def yX3_spread : MethodName := ⟨RX3, "spread", "(LWantPlots$World;II)V"⟩
abbrev cX3_end : ByteArray := prog_5_method_5_code
def yX3_end : MethodName := ⟨RX3, "end", "(I)V"⟩
abbrev cX3_firstAct : ByteArray := prog_5_method_6_code
def yX3_firstAct : MethodName := ⟨RX3, "firstAct", "()I"⟩
abbrev cX3_actAt : ByteArray := prog_5_method_7_code
def yX3_actAt : MethodName := ⟨RX3, "actAt", "(I)I"⟩
def RX4 : String := "WantPlots$Story"
def TX4 : u_T := fun k => match k with
  | 0 => ("WantPlots$Story", "actOf", "[I", true)
  | 1 => ("WantPlots$Story", "factOf", "[I", true)
  | 2 => ("WantPlots$Story", "turnOf", "[I", true)
  | 3 => ("WantPlots$Story", "factsAfter", "[I", true)
  | 4 => ("WantPlots$Story", "links", "[I", true)
  | 5 => ("WantPlots$Story", "depends", "[I", true)
  | 6 => ("WantPlots$Story", "timesDone", "[I", true)
  | 7 => ("WantPlots$Story", "needsTrue", "[I", true)
  | 8 => ("WantPlots$Story", "needsFalse", "[I", true)
  | 9 => ("WantPlots$Story", "makesTrue", "[I", true)
  | 10 => ("WantPlots$Story", "makesFalse", "[I", true)
  | 11 => ("WantPlots$Story", "firstOfThread", "[I", true)
  | 12 => ("WantPlots$Story", "size", "I", false)
  | 13 => ("WantPlots$Story", "nextTurn", "I", false)
  | 14 => ("WantPlots$Story", "facts", "I", false)
  | _ => ("WantPlots$Story", "firstFacts", "I", false)
def tyX4 : Nat → FieldType := fun k => match k with
  | 0 => .array .int
  | 1 => .array .int
  | 2 => .array .int
  | 3 => .array .int
  | 4 => .array .int
  | 5 => .array .int
  | 6 => .array .int
  | 7 => .array .int
  | 8 => .array .int
  | 9 => .array .int
  | 10 => .array .int
  | 11 => .array .int
  | 12 => .int
  | 13 => .int
  | 14 => .int
  | _ => .int
abbrev wsX40 : List Cond := u_ws RX4 TX4 16
theorem nmX4 : ∀ a, a < 16 → ∀ b, b < 16 → a ≠ b → (TX4 a).2.1 ≠ (TX4 b).2.1 := by decide +kernel
theorem tyX4_ok : ∀ k, k < 16 → parseFieldDescriptor (TX4 k).2.2.1 = some (tyX4 k) := by decide +kernel
abbrev cX4_init : ByteArray := prog_6_method_1_code
def yX4_init : MethodName := ⟨RX4, "<init>", "()V"⟩
abbrev cX4_begin : ByteArray := prog_6_method_2_code
def yX4_begin : MethodName := ⟨RX4, "begin", "(I)V"⟩
abbrev cX4_addAct : ByteArray := prog_6_method_3_code
def yX4_addAct : MethodName := ⟨RX4, "addAct", "(LWantPlots$World;I)V"⟩
abbrev cX4_addFate : ByteArray := prog_6_method_4_code
def yX4_addFate : MethodName := ⟨RX4, "addFate", "(I)V"⟩
abbrev cX4_closeStep : ByteArray := prog_6_method_5_code
def yX4_closeStep : MethodName := ⟨RX4, "closeStep", "()V"⟩
abbrev cX4_linkBack : ByteArray := prog_6_method_6_code
def yX4_linkBack : MethodName := ⟨RX4, "linkBack", "(I)V"⟩
abbrev cX4_removeLast : ByteArray := prog_6_method_7_code
def yX4_removeLast : MethodName := ⟨RX4, "removeLast", "()V"⟩
abbrev cX4_allSteps : ByteArray := prog_6_method_8_code
def yX4_allSteps : MethodName := ⟨RX4, "allSteps", "()I"⟩
abbrev cX4_allLinks : ByteArray := prog_6_method_9_code
def yX4_allLinks : MethodName := ⟨RX4, "allLinks", "()I"⟩
abbrev cX4_widestLink : ByteArray := prog_6_method_10_code
def yX4_widestLink : MethodName := ⟨RX4, "widestLink", "()I"⟩
abbrev cX4_sortIntoThread : ByteArray := prog_6_method_11_code
def yX4_sortIntoThread : MethodName := ⟨RX4, "sortIntoThread", "(I)V"⟩
abbrev cX4_joinThreads : ByteArray := prog_6_method_12_code
def yX4_joinThreads : MethodName := ⟨RX4, "joinThreads", "(III)V"⟩
abbrev cX4_threadsBefore : ByteArray := prog_6_method_13_code
def yX4_threadsBefore : MethodName := ⟨RX4, "threadsBefore", "(I)I"⟩
abbrev cX4_threadOf : ByteArray := prog_6_method_14_code
def yX4_threadOf : MethodName := ⟨RX4, "threadOf", "(I)I"⟩
abbrev cX4_isValid : ByteArray := prog_6_method_15_code
def yX4_isValid : MethodName := ⟨RX4, "isValid", "(III)Z"⟩
abbrev cX4_isDull : ByteArray := prog_6_method_16_code
def yX4_isDull : MethodName := ⟨RX4, "isDull", "(IIII)Z"⟩
abbrev cX4_dullSteps : ByteArray := prog_6_method_17_code
def yX4_dullSteps : MethodName := ⟨RX4, "dullSteps", "(II)I"⟩
abbrev cX4_firstDull : ByteArray := prog_6_method_18_code
def yX4_firstDull : MethodName := ⟨RX4, "firstDull", "(III)I"⟩
abbrev cX4_minimalSteps : ByteArray := prog_6_method_19_code
def yX4_minimalSteps : MethodName := ⟨RX4, "minimalSteps", "(II)I"⟩
def RX5 : String := "WantPlots$World"
def TX5 : u_T := fun k => match k with
  | 0 => ("WantPlots$World", "kind", "[I", true)
  | 1 => ("WantPlots$World", "goalFact", "[I", true)
  | 2 => ("WantPlots$World", "wantsTrue", "[I", true)
  | 3 => ("WantPlots$World", "wantsFalse", "[I", true)
  | 4 => ("WantPlots$World", "owner", "[I", true)
  | 5 => ("WantPlots$World", "needsTrue", "[I", true)
  | 6 => ("WantPlots$World", "needsFalse", "[I", true)
  | 7 => ("WantPlots$World", "makesTrue", "[I", true)
  | 8 => ("WantPlots$World", "makesFalse", "[I", true)
  | 9 => ("WantPlots$World", "people", "I", false)
  | 10 => ("WantPlots$World", "acts", "I", false)
  | _ => ("WantPlots$World", "firstFacts", "I", false)
def tyX5 : Nat → FieldType := fun k => match k with
  | 0 => .array .int
  | 1 => .array .int
  | 2 => .array .int
  | 3 => .array .int
  | 4 => .array .int
  | 5 => .array .int
  | 6 => .array .int
  | 7 => .array .int
  | 8 => .array .int
  | 9 => .int
  | 10 => .int
  | _ => .int
abbrev wsX50 : List Cond := u_ws RX5 TX5 12
theorem nmX5 : ∀ a, a < 12 → ∀ b, b < 12 → a ≠ b → (TX5 a).2.1 ≠ (TX5 b).2.1 := by decide +kernel
theorem tyX5_ok : ∀ k, k < 12 → parseFieldDescriptor (TX5 k).2.2.1 = some (tyX5 k) := by decide +kernel
abbrev cX5_init : ByteArray := prog_7_method_1_code
def yX5_init : MethodName := ⟨RX5, "<init>", "()V"⟩
abbrev cX5_clear : ByteArray := prog_7_method_2_code
def yX5_clear : MethodName := ⟨RX5, "clear", "()V"⟩
abbrev cX5_addPerson : ByteArray := prog_7_method_3_code
def yX5_addPerson : MethodName := ⟨RX5, "addPerson", "(I)V"⟩
abbrev cX5_addAct : ByteArray := prog_7_method_4_code
def yX5_addAct : MethodName := ⟨RX5, "addAct", "(I)V"⟩
abbrev cX5_everybody : ByteArray := prog_7_method_5_code
def yX5_everybody : MethodName := ⟨RX5, "everybody", "()I"⟩
abbrev cX5_everyAct : ByteArray := prog_7_method_6_code
def yX5_everyAct : MethodName := ⟨RX5, "everyAct", "()I"⟩
abbrev cX5_satisfiedBy : ByteArray := prog_7_method_7_code
def yX5_satisfiedBy : MethodName := ⟨RX5, "satisfiedBy", "(I)I"⟩
abbrev cX5_goalsToBeTrue : ByteArray := prog_7_method_8_code
def yX5_goalsToBeTrue : MethodName := ⟨RX5, "goalsToBeTrue", "(I)I"⟩
abbrev cX5_goalsToBeFalse : ByteArray := prog_7_method_9_code
def yX5_goalsToBeFalse : MethodName := ⟨RX5, "goalsToBeFalse", "(I)I"⟩
abbrev cX5_factsOf : ByteArray := prog_7_method_10_code
def yX5_factsOf : MethodName := ⟨RX5, "factsOf", "([II)I"⟩
def RX6 : String := "WantPlots"
def TX6 : u_T := fun k => match k with
  | 0 => ("WantPlots", "sheet", "LWantPlots$Page;", true)
  | 1 => ("WantPlots", "reader", "LWantPlots$Reader;", true)
  | 2 => ("WantPlots", "tale", "LWantPlots$Story;", true)
  | 3 => ("WantPlots", "search", "LWantPlots$Search;", true)
  | 4 => ("WantPlots", "probe", "LWantPlots$Search;", true)
  | 5 => ("WantPlots", "counter", "LWantPlots$Counter;", true)
  | 6 => ("WantPlots", "present", "LWantPlots$World;", false)
  | 7 => ("WantPlots", "spare", "LWantPlots$World;", false)
  | 8 => ("WantPlots", "hasWorld", "Z", false)
  | 9 => ("WantPlots", "worldsRead", "I", false)
  | 10 => ("WantPlots", "turnsPassed", "I", false)
  | _ => ("WantPlots", "stepsUndone", "I", false)
def tyX6 : Nat → FieldType := fun k => match k with
  | 0 => .object "WantPlots$Page"
  | 1 => .object "WantPlots$Reader"
  | 2 => .object "WantPlots$Story"
  | 3 => .object "WantPlots$Search"
  | 4 => .object "WantPlots$Search"
  | 5 => .object "WantPlots$Counter"
  | 6 => .object "WantPlots$World"
  | 7 => .object "WantPlots$World"
  | 8 => .boolean
  | 9 => .int
  | 10 => .int
  | _ => .int
abbrev wsX60 : List Cond := u_ws RX6 TX6 12
theorem nmX6 : ∀ a, a < 12 → ∀ b, b < 12 → a ≠ b → (TX6 a).2.1 ≠ (TX6 b).2.1 := by decide +kernel
theorem tyX6_ok : ∀ k, k < 12 → parseFieldDescriptor (TX6 k).2.2.1 = some (tyX6 k) := by decide +kernel
abbrev cX6_init : ByteArray := prog_1_method_1_code
def yX6_init : MethodName := ⟨RX6, "<init>", "()V"⟩
abbrev cX6_letter : ByteArray := prog_1_method_2_code
def yX6_letter : MethodName := ⟨RX6, "letter", "(I)I"⟩
abbrev cX6_blank : ByteArray := prog_1_method_3_code
def yX6_blank : MethodName := ⟨RX6, "blank", "()I"⟩
abbrev cX6_fault : ByteArray := prog_1_method_4_code
def yX6_fault : MethodName := ⟨RX6, "fault", "()I"⟩
abbrev cX6_world : ByteArray := prog_1_method_5_code
def yX6_world : MethodName := ⟨RX6, "world", "()I"⟩
abbrev cX6_go : ByteArray := prog_1_method_6_code
def yX6_go : MethodName := ⟨RX6, "go", "(I)I"⟩
abbrev cX6_fate : ByteArray := prog_1_method_7_code
def yX6_fate : MethodName := ⟨RX6, "fate", "(I)I"⟩
abbrev cX6_act : ByteArray := prog_1_method_8_code
def yX6_act : MethodName := ⟨RX6, "act", "(I)I"⟩
abbrev cX6_undo : ByteArray := prog_1_method_9_code
def yX6_undo : MethodName := ⟨RX6, "undo", "()I"⟩
abbrev cX6_about : ByteArray := prog_1_method_10_code
def yX6_about : MethodName := ⟨RX6, "about", "(I)I"⟩
abbrev cX6_one : ByteArray := prog_1_method_11_code
def yX6_one : MethodName := ⟨RX6, "one", "(II)I"⟩
abbrev cX6_plan : ByteArray := prog_1_method_12_code
def yX6_plan : MethodName := ⟨RX6, "plan", "(II)I"⟩
abbrev cX6_foil : ByteArray := prog_1_method_13_code
def yX6_foil : MethodName := ⟨RX6, "foil", "(III)I"⟩
abbrev cX6_deed : ByteArray := prog_1_method_14_code
def yX6_deed : MethodName := ⟨RX6, "deed", "(II)I"⟩
abbrev cX6_step : ByteArray := prog_1_method_15_code
def yX6_step : MethodName := ⟨RX6, "step", "(II)I"⟩
abbrev cX6_story : ByteArray := prog_1_method_16_code
def yX6_story : MethodName := ⟨RX6, "story", "(I)I"⟩
abbrev cX6_together : ByteArray := prog_1_method_17_code
def yX6_together : MethodName := ⟨RX6, "together", "(I)I"⟩
abbrev cX6_ways : ByteArray := prog_1_method_18_code
def yX6_ways : MethodName := ⟨RX6, "ways", "(I)I"⟩
abbrev cX6_count : ByteArray := prog_1_method_19_code
def yX6_count : MethodName := ⟨RX6, "count", "(I)I"⟩
abbrev cX6_digest : ByteArray := prog_1_method_20_code
def yX6_digest : MethodName := ⟨RX6, "digest", "()J"⟩
abbrev cX6_withActs : ByteArray := prog_1_method_21_code
def yX6_withActs : MethodName := ⟨RX6, "withActs", "(J)J"⟩
abbrev cX6_withSteps : ByteArray := prog_1_method_22_code
def yX6_withSteps : MethodName := ⟨RX6, "withSteps", "(J)J"⟩
abbrev cX6_withWays : ByteArray := prog_1_method_23_code
def yX6_withWays : MethodName := ⟨RX6, "withWays", "(J)J"⟩
abbrev cX6_withPath : ByteArray := prog_1_method_24_code
def yX6_withPath : MethodName := ⟨RX6, "withPath", "(J)J"⟩
abbrev cX6_isPerson : ByteArray := prog_1_method_25_code
def yX6_isPerson : MethodName := ⟨RX6, "isPerson", "(I)Z"⟩
abbrev cX6_isAct : ByteArray := prog_1_method_26_code
def yX6_isAct : MethodName := ⟨RX6, "isAct", "(I)Z"⟩
abbrev cX6_canBeDone : ByteArray := prog_1_method_27_code
def yX6_canBeDone : MethodName := ⟨RX6, "canBeDone", "(I)Z"⟩
abbrev cX6_isSatisfied : ByteArray := prog_1_method_28_code
def yX6_isSatisfied : MethodName := ⟨RX6, "isSatisfied", "(I)Z"⟩
abbrev cX6_repertoire : ByteArray := prog_1_method_29_code
def yX6_repertoire : MethodName := ⟨RX6, "repertoire", "(I)I"⟩
abbrev cX6_stepsOf : ByteArray := prog_1_method_30_code
def yX6_stepsOf : MethodName := ⟨RX6, "stepsOf", "(I)I"⟩
abbrev cX6_finalTrue : ByteArray := prog_1_method_31_code
def yX6_finalTrue : MethodName := ⟨RX6, "finalTrue", "()I"⟩
abbrev cX6_finalFalse : ByteArray := prog_1_method_32_code
def yX6_finalFalse : MethodName := ⟨RX6, "finalFalse", "()I"⟩
abbrev cX6_passTurn : ByteArray := prog_1_method_33_code
def yX6_passTurn : MethodName := ⟨RX6, "passTurn", "()V"⟩
abbrev cX6_choice : ByteArray := prog_1_method_34_code
def yX6_choice : MethodName := ⟨RX6, "choice", "(II)I"⟩
abbrev cX6_seekPlan : ByteArray := prog_1_method_35_code
def yX6_seekPlan : MethodName := ⟨RX6, "seekPlan", "(I)V"⟩
abbrev cX6_seekTogether : ByteArray := prog_1_method_36_code
def yX6_seekTogether : MethodName := ⟨RX6, "seekTogether", "()V"⟩
abbrev cX6_seekFoil : ByteArray := prog_1_method_37_code
def yX6_seekFoil : MethodName := ⟨RX6, "seekFoil", "(II)V"⟩
abbrev cX6_holds : ByteArray := prog_1_method_38_code
def yX6_holds : MethodName := ⟨RX6, "holds", "(III)Z"⟩
abbrev cX6_changed : ByteArray := prog_1_method_39_code
def yX6_changed : MethodName := ⟨RX6, "changed", "(III)I"⟩
abbrev cX6_contains : ByteArray := prog_1_method_40_code
def yX6_contains : MethodName := ⟨RX6, "contains", "(II)Z"⟩
def RX7 : String := "WantPlotsModel"
def TX7 : u_T := fun k => match k with
  | 0 => ("WantPlotsModel", "people", "I", false)
  | 1 => ("WantPlotsModel", "kindOf", "[I", true)
  | 2 => ("WantPlotsModel", "wantOf", "[I", true)
  | 3 => ("WantPlotsModel", "wantsSo", "[Z", true)
  | 4 => ("WantPlotsModel", "firstFacts", "I", false)
  | 5 => ("WantPlotsModel", "acts", "I", false)
  | 6 => ("WantPlotsModel", "whose", "[I", true)
  | 7 => ("WantPlotsModel", "needs", "[I", true)
  | 8 => ("WantPlotsModel", "bars", "[I", true)
  | 9 => ("WantPlotsModel", "gives", "[I", true)
  | 10 => ("WantPlotsModel", "takes", "[I", true)
  | 11 => ("WantPlotsModel", "facts", "I", false)
  | 12 => ("WantPlotsModel", "turn", "I", false)
  | 13 => ("WantPlotsModel", "steps", "I", false)
  | 14 => ("WantPlotsModel", "stepAct", "[I", true)
  | 15 => ("WantPlotsModel", "stepGave", "[I", true)
  | 16 => ("WantPlotsModel", "stepTook", "[I", true)
  | 17 => ("WantPlotsModel", "stepFacts", "[I", true)
  | 18 => ("WantPlotsModel", "stepTurn", "[I", true)
  | 19 => ("WantPlotsModel", "pageLength", "I", false)
  | 20 => ("WantPlotsModel", "page", "[I", true)
  | 21 => ("WantPlotsModel", "reads", "I", false)
  | 22 => ("WantPlotsModel", "turnsEver", "I", false)
  | 23 => ("WantPlotsModel", "undone", "I", false)
  | 24 => ("WantPlotsModel", "stage", "I", false)
  | 25 => ("WantPlotsModel", "newPeople", "I", false)
  | 26 => ("WantPlotsModel", "newKind", "[I", true)
  | 27 => ("WantPlotsModel", "newWant", "[I", true)
  | 28 => ("WantPlotsModel", "newSo", "[Z", true)
  | 29 => ("WantPlotsModel", "newFirst", "I", false)
  | 30 => ("WantPlotsModel", "newActs", "I", false)
  | 31 => ("WantPlotsModel", "newWhose", "[I", true)
  | 32 => ("WantPlotsModel", "newNeeds", "[I", true)
  | 33 => ("WantPlotsModel", "newBars", "[I", true)
  | 34 => ("WantPlotsModel", "newGives", "[I", true)
  | 35 => ("WantPlotsModel", "newTakes", "[I", true)
  | 36 => ("WantPlotsModel", "isSought", "[Z", true)
  | 37 => ("WantPlotsModel", "few", "[I", true)
  | 38 => ("WantPlotsModel", "byActs", "I", false)
  | 39 => ("WantPlotsModel", "links", "[I", true)
  | 40 => ("WantPlotsModel", "hangs", "[I", true)
  | 41 => ("WantPlotsModel", "threads", "[I", true)
  | 42 => ("WantPlotsModel", "waysFrom", "[I", true)
  | 43 => ("WantPlotsModel", "waysMore", "[I", true)
  | _ => ("WantPlotsModel", "h", "J", false)
def tyX7 : Nat → FieldType := fun k => match k with
  | 0 => .int
  | 1 => .array .int
  | 2 => .array .int
  | 3 => .array .boolean
  | 4 => .int
  | 5 => .int
  | 6 => .array .int
  | 7 => .array .int
  | 8 => .array .int
  | 9 => .array .int
  | 10 => .array .int
  | 11 => .int
  | 12 => .int
  | 13 => .int
  | 14 => .array .int
  | 15 => .array .int
  | 16 => .array .int
  | 17 => .array .int
  | 18 => .array .int
  | 19 => .int
  | 20 => .array .int
  | 21 => .int
  | 22 => .int
  | 23 => .int
  | 24 => .int
  | 25 => .int
  | 26 => .array .int
  | 27 => .array .int
  | 28 => .array .boolean
  | 29 => .int
  | 30 => .int
  | 31 => .array .int
  | 32 => .array .int
  | 33 => .array .int
  | 34 => .array .int
  | 35 => .array .int
  | 36 => .array .boolean
  | 37 => .array .int
  | 38 => .int
  | 39 => .array .int
  | 40 => .array .int
  | 41 => .array .int
  | 42 => .array .int
  | 43 => .array .int
  | _ => .long
abbrev wsX70 : List Cond := u_ws RX7 TX7 45
theorem nmX7 : ∀ a, a < 45 → ∀ b, b < 45 → a ≠ b → (TX7 a).2.1 ≠ (TX7 b).2.1 := by decide +kernel
theorem tyX7_ok : ∀ k, k < 45 → parseFieldDescriptor (TX7 k).2.2.1 = some (tyX7 k) := by decide +kernel
abbrev cX7_init : ByteArray := prog_9_method_1_code
def yX7_init : MethodName := ⟨RX7, "<init>", "()V"⟩
abbrev cX7_within : ByteArray := prog_9_method_3_code
def yX7_within : MethodName := ⟨RX7, "within", "(III)Z"⟩
abbrev cX7_letter : ByteArray := prog_9_method_4_code
def yX7_letter : MethodName := ⟨RX7, "letter", "(I)I"⟩
abbrev cX7_blank : ByteArray := prog_9_method_5_code
def yX7_blank : MethodName := ⟨RX7, "blank", "()I"⟩
abbrev cX7_bitOf : ByteArray := prog_9_method_6_code
def yX7_bitOf : MethodName := ⟨RX7, "bitOf", "(I)I"⟩
abbrev cX7_comesBehind : ByteArray := prog_9_method_7_code
def yX7_comesBehind : MethodName := ⟨RX7, "comesBehind", "(II)Z"⟩
abbrev cX7_goes : ByteArray := prog_9_method_8_code
def yX7_goes : MethodName := ⟨RX7, "goes", "(ZI)Z"⟩
abbrev cX7_takesKind : ByteArray := prog_9_method_9_code
def yX7_takesKind : MethodName := ⟨RX7, "takesKind", "(I)Z"⟩
abbrev cX7_takesSign : ByteArray := prog_9_method_10_code
def yX7_takesSign : MethodName := ⟨RX7, "takesSign", "(I)Z"⟩
abbrev cX7_takesWant : ByteArray := prog_9_method_11_code
def yX7_takesWant : MethodName := ⟨RX7, "takesWant", "(I)Z"⟩
abbrev cX7_takesPerson : ByteArray := prog_9_method_12_code
def yX7_takesPerson : MethodName := ⟨RX7, "takesPerson", "(I)Z"⟩
abbrev cX7_takesFirst : ByteArray := prog_9_method_13_code
def yX7_takesFirst : MethodName := ⟨RX7, "takesFirst", "(I)Z"⟩
abbrev cX7_takesWhose : ByteArray := prog_9_method_14_code
def yX7_takesWhose : MethodName := ⟨RX7, "takesWhose", "(I)Z"⟩
abbrev cX7_takesNeeds : ByteArray := prog_9_method_15_code
def yX7_takesNeeds : MethodName := ⟨RX7, "takesNeeds", "(I)Z"⟩
abbrev cX7_takesBars : ByteArray := prog_9_method_16_code
def yX7_takesBars : MethodName := ⟨RX7, "takesBars", "(I)Z"⟩
abbrev cX7_takesNext : ByteArray := prog_9_method_17_code
def yX7_takesNext : MethodName := ⟨RX7, "takesNext", "(I)Z"⟩
abbrev cX7_takesGives : ByteArray := prog_9_method_18_code
def yX7_takesGives : MethodName := ⟨RX7, "takesGives", "(I)Z"⟩
abbrev cX7_takesTakes : ByteArray := prog_9_method_19_code
def yX7_takesTakes : MethodName := ⟨RX7, "takesTakes", "(I)Z"⟩
abbrev cX7_takesLetter : ByteArray := prog_9_method_20_code
def yX7_takesLetter : MethodName := ⟨RX7, "takesLetter", "(I)Z"⟩
abbrev cX7_read : ByteArray := prog_9_method_21_code
def yX7_read : MethodName := ⟨RX7, "read", "()I"⟩
abbrev cX7_fault : ByteArray := prog_9_method_22_code
def yX7_fault : MethodName := ⟨RX7, "fault", "()I"⟩
abbrev cX7_world : ByteArray := prog_9_method_23_code
def yX7_world : MethodName := ⟨RX7, "world", "()I"⟩
abbrev cX7_isWorld : ByteArray := prog_9_method_24_code
def yX7_isWorld : MethodName := ⟨RX7, "isWorld", "()Z"⟩
abbrev cX7_canDo : ByteArray := prog_9_method_25_code
def yX7_canDo : MethodName := ⟨RX7, "canDo", "(II)Z"⟩
abbrev cX7_behind : ByteArray := prog_9_method_26_code
def yX7_behind : MethodName := ⟨RX7, "behind", "(II)I"⟩
abbrev cX7_isWanted : ByteArray := prog_9_method_27_code
def yX7_isWanted : MethodName := ⟨RX7, "isWanted", "(II)Z"⟩
abbrev cX7_wantsIn : ByteArray := prog_9_method_28_code
def yX7_wantsIn : MethodName := ⟨RX7, "wantsIn", "(I)I"⟩
abbrev cX7_timesDone : ByteArray := prog_9_method_29_code
def yX7_timesDone : MethodName := ⟨RX7, "timesDone", "(I)I"⟩
abbrev cX7_actsOf : ByteArray := prog_9_method_30_code
def yX7_actsOf : MethodName := ⟨RX7, "actsOf", "(I)I"⟩
abbrev cX7_lessFrom : ByteArray := prog_9_method_31_code
def yX7_lessFrom : MethodName := ⟨RX7, "lessFrom", "(I)I"⟩
abbrev cX7_layFew : ByteArray := prog_9_method_32_code
def yX7_layFew : MethodName := ⟨RX7, "layFew", "(I)V"⟩
abbrev cX7_layPlan : ByteArray := prog_9_method_33_code
def yX7_layPlan : MethodName := ⟨RX7, "layPlan", "(I)V"⟩
abbrev cX7_layFoil : ByteArray := prog_9_method_34_code
def yX7_layFoil : MethodName := ⟨RX7, "layFoil", "(II)V"⟩
abbrev cX7_layTogether : ByteArray := prog_9_method_35_code
def yX7_layTogether : MethodName := ⟨RX7, "layTogether", "()V"⟩
abbrev cX7_nextAct : ByteArray := prog_9_method_36_code
def yX7_nextAct : MethodName := ⟨RX7, "nextAct", "(I)I"⟩
abbrev cX7_laidAct : ByteArray := prog_9_method_37_code
def yX7_laidAct : MethodName := ⟨RX7, "laidAct", "(I)I"⟩
abbrev cX7_laidMany : ByteArray := prog_9_method_38_code
def yX7_laidMany : MethodName := ⟨RX7, "laidMany", "()I"⟩
abbrev cX7_foilFirst : ByteArray := prog_9_method_39_code
def yX7_foilFirst : MethodName := ⟨RX7, "foilFirst", "(I)I"⟩
abbrev cX7_wouldDo : ByteArray := prog_9_method_40_code
def yX7_wouldDo : MethodName := ⟨RX7, "wouldDo", "(II)I"⟩
abbrev cX7_addStep : ByteArray := prog_9_method_41_code
def yX7_addStep : MethodName := ⟨RX7, "addStep", "(III)V"⟩
abbrev cX7_passTurn : ByteArray := prog_9_method_42_code
def yX7_passTurn : MethodName := ⟨RX7, "passTurn", "()V"⟩
abbrev cX7_goNow : ByteArray := prog_9_method_43_code
def yX7_goNow : MethodName := ⟨RX7, "goNow", "(I)I"⟩
abbrev cX7_go : ByteArray := prog_9_method_44_code
def yX7_go : MethodName := ⟨RX7, "go", "(I)I"⟩
abbrev cX7_fate : ByteArray := prog_9_method_45_code
def yX7_fate : MethodName := ⟨RX7, "fate", "(I)I"⟩
abbrev cX7_isAct : ByteArray := prog_9_method_46_code
def yX7_isAct : MethodName := ⟨RX7, "isAct", "(I)Z"⟩
abbrev cX7_act : ByteArray := prog_9_method_47_code
def yX7_act : MethodName := ⟨RX7, "act", "(I)I"⟩
abbrev cX7_undo : ByteArray := prog_9_method_48_code
def yX7_undo : MethodName := ⟨RX7, "undo", "()I"⟩
abbrev cX7_aboutNow : ByteArray := prog_9_method_49_code
def yX7_aboutNow : MethodName := ⟨RX7, "aboutNow", "(I)I"⟩
abbrev cX7_about : ByteArray := prog_9_method_50_code
def yX7_about : MethodName := ⟨RX7, "about", "(I)I"⟩
abbrev cX7_stepsBy : ByteArray := prog_9_method_51_code
def yX7_stepsBy : MethodName := ⟨RX7, "stepsBy", "(I)I"⟩
abbrev cX7_planNow : ByteArray := prog_9_method_52_code
def yX7_planNow : MethodName := ⟨RX7, "planNow", "(II)I"⟩
abbrev cX7_oneNow : ByteArray := prog_9_method_53_code
def yX7_oneNow : MethodName := ⟨RX7, "oneNow", "(II)I"⟩
abbrev cX7_isOne : ByteArray := prog_9_method_54_code
def yX7_isOne : MethodName := ⟨RX7, "isOne", "(I)Z"⟩
abbrev cX7_one : ByteArray := prog_9_method_55_code
def yX7_one : MethodName := ⟨RX7, "one", "(II)I"⟩
abbrev cX7_plan : ByteArray := prog_9_method_56_code
def yX7_plan : MethodName := ⟨RX7, "plan", "(II)I"⟩
abbrev cX7_foilNow : ByteArray := prog_9_method_57_code
def yX7_foilNow : MethodName := ⟨RX7, "foilNow", "(III)I"⟩
abbrev cX7_foil : ByteArray := prog_9_method_58_code
def yX7_foil : MethodName := ⟨RX7, "foil", "(III)I"⟩
abbrev cX7_deedNow : ByteArray := prog_9_method_59_code
def yX7_deedNow : MethodName := ⟨RX7, "deedNow", "(II)I"⟩
abbrev cX7_deed : ByteArray := prog_9_method_60_code
def yX7_deed : MethodName := ⟨RX7, "deed", "(II)I"⟩
abbrev cX7_latest : ByteArray := prog_9_method_61_code
def yX7_latest : MethodName := ⟨RX7, "latest", "(IIZ)I"⟩
abbrev cX7_linksOf : ByteArray := prog_9_method_62_code
def yX7_linksOf : MethodName := ⟨RX7, "linksOf", "(I)I"⟩
abbrev cX7_joins : ByteArray := prog_9_method_63_code
def yX7_joins : MethodName := ⟨RX7, "joins", "(II)Z"⟩
abbrev cX7_layLinks : ByteArray := prog_9_method_64_code
def yX7_layLinks : MethodName := ⟨RX7, "layLinks", "()V"⟩
abbrev cX7_threadsAhead : ByteArray := prog_9_method_65_code
def yX7_threadsAhead : MethodName := ⟨RX7, "threadsAhead", "(I)I"⟩
abbrev cX7_isDull : ByteArray := prog_9_method_66_code
def yX7_isDull : MethodName := ⟨RX7, "isDull", "(II)Z"⟩
abbrev cX7_allSteps : ByteArray := prog_9_method_67_code
def yX7_allSteps : MethodName := ⟨RX7, "allSteps", "()I"⟩
abbrev cX7_stepNow : ByteArray := prog_9_method_68_code
def yX7_stepNow : MethodName := ⟨RX7, "stepNow", "(II)I"⟩
abbrev cX7_factOf : ByteArray := prog_9_method_69_code
def yX7_factOf : MethodName := ⟨RX7, "factOf", "(I)I"⟩
abbrev cX7_stepTold : ByteArray := prog_9_method_70_code
def yX7_stepTold : MethodName := ⟨RX7, "stepTold", "(II)I"⟩
abbrev cX7_step : ByteArray := prog_9_method_71_code
def yX7_step : MethodName := ⟨RX7, "step", "(II)I"⟩
abbrev cX7_dullMany : ByteArray := prog_9_method_72_code
def yX7_dullMany : MethodName := ⟨RX7, "dullMany", "()I"⟩
abbrev cX7_firstDull : ByteArray := prog_9_method_73_code
def yX7_firstDull : MethodName := ⟨RX7, "firstDull", "(I)I"⟩
abbrev cX7_cut : ByteArray := prog_9_method_74_code
def yX7_cut : MethodName := ⟨RX7, "cut", "()I"⟩
abbrev cX7_bits : ByteArray := prog_9_method_75_code
def yX7_bits : MethodName := ⟨RX7, "bits", "(I)I"⟩
abbrev cX7_linksMany : ByteArray := prog_9_method_76_code
def yX7_linksMany : MethodName := ⟨RX7, "linksMany", "()I"⟩
abbrev cX7_farthest : ByteArray := prog_9_method_77_code
def yX7_farthest : MethodName := ⟨RX7, "farthest", "()I"⟩
abbrev cX7_storyNow : ByteArray := prog_9_method_78_code
def yX7_storyNow : MethodName := ⟨RX7, "storyNow", "(I)I"⟩
abbrev cX7_story : ByteArray := prog_9_method_79_code
def yX7_story : MethodName := ⟨RX7, "story", "(I)I"⟩
abbrev cX7_togetherNow : ByteArray := prog_9_method_80_code
def yX7_togetherNow : MethodName := ⟨RX7, "togetherNow", "(I)I"⟩
abbrev cX7_together : ByteArray := prog_9_method_81_code
def yX7_together : MethodName := ⟨RX7, "together", "(I)I"⟩
abbrev cX7_layMore : ByteArray := prog_9_method_82_code
def yX7_layMore : MethodName := ⟨RX7, "layMore", "()V"⟩
abbrev cX7_waysNow : ByteArray := prog_9_method_83_code
def yX7_waysNow : MethodName := ⟨RX7, "waysNow", "(I)I"⟩
abbrev cX7_ways : ByteArray := prog_9_method_84_code
def yX7_ways : MethodName := ⟨RX7, "ways", "(I)I"⟩
abbrev cX7_howMany : ByteArray := prog_9_method_85_code
def yX7_howMany : MethodName := ⟨RX7, "howMany", "(I)I"⟩
abbrev cX7_count : ByteArray := prog_9_method_86_code
def yX7_count : MethodName := ⟨RX7, "count", "(I)I"⟩
abbrev cX7_mix : ByteArray := prog_9_method_87_code
def yX7_mix : MethodName := ⟨RX7, "mix", "(J)V"⟩
abbrev cX7_mixPeople : ByteArray := prog_9_method_88_code
def yX7_mixPeople : MethodName := ⟨RX7, "mixPeople", "()V"⟩
abbrev cX7_mixStory : ByteArray := prog_9_method_89_code
def yX7_mixStory : MethodName := ⟨RX7, "mixStory", "()V"⟩
abbrev cX7_digest : ByteArray := prog_9_method_90_code
def yX7_digest : MethodName := ⟨RX7, "digest", "()J"⟩
def RJ6 : String := "java/lang/Integer"
def TJ6 : u_T := fun k => match k with
  | _ => ("", "", "", false)
def tyJ6 : Nat → FieldType := fun k => match k with
  | _ => .int
abbrev wsJ60 : List Cond := u_ws RJ6 TJ6 0
theorem nmJ6 : ∀ a, a < 0 → ∀ b, b < 0 → a ≠ b → (TJ6 a).2.1 ≠ (TJ6 b).2.1 := by decide +kernel
theorem tyJ6_ok : ∀ k, k < 0 → parseFieldDescriptor (TJ6 k).2.2.1 = some (tyJ6 k) := by decide +kernel
abbrev cJ6_bitCount_0f7a4 : ByteArray := prog_10_method_49_code
def yJ6_bitCount_0f7a4 : MethodName := ⟨RJ6, "bitCount", "(I)I"⟩
def RJ9 : String := "java/lang/Math"
def TJ9 : u_T := fun k => match k with
  | _ => ("", "", "", false)
def tyJ9 : Nat → FieldType := fun k => match k with
  | _ => .int
abbrev wsJ90 : List Cond := u_ws RJ9 TJ9 0
theorem nmJ9 : ∀ a, a < 0 → ∀ b, b < 0 → a ≠ b → (TJ9 a).2.1 ≠ (TJ9 b).2.1 := by decide +kernel
theorem tyJ9_ok : ∀ k, k < 0 → parseFieldDescriptor (TJ9 k).2.2.1 = some (tyJ9 k) := by decide +kernel
abbrev cJ9_max_7cf53 : ByteArray := prog_11_method_65_code
def yJ9_max_7cf53 : MethodName := ⟨RJ9, "max", "(II)I"⟩
abbrev cJ9_min_7cf53 : ByteArray := prog_11_method_69_code
def yJ9_min_7cf53 : MethodName := ⟨RJ9, "min", "(II)I"⟩
def RL : String := "WantPlotsLaw"
abbrev cL_law : ByteArray := code
def yL_law : MethodName := ⟨RL, "law", "([I)Z"⟩
/-! the tables by class number -/
def zR : Nat → String
  | 0 => RX0
  | 1 => RX1
  | 2 => RX2
  | 3 => RX3
  | 4 => RX4
  | 5 => RX5
  | 6 => RX6
  | 7 => RX7
  | _ => ""
def zT : Nat → u_T
  | 0 => TX0
  | 1 => TX1
  | 2 => TX2
  | 3 => TX3
  | 4 => TX4
  | 5 => TX5
  | 6 => TX6
  | 7 => TX7
  | _ => fun _ => ("", "", "", false)
def zF : Nat → Nat
  | 0 => 2
  | 1 => 2
  | 2 => 3
  | 3 => 9
  | 4 => 16
  | 5 => 12
  | 6 => 12
  | 7 => 45
  | _ => 0
def zt : Nat → Nat → FieldType
  | 0 => tyX0
  | 1 => tyX1
  | 2 => tyX2
  | 3 => tyX3
  | 4 => tyX4
  | 5 => tyX5
  | 6 => tyX6
  | 7 => tyX7
  | _ => fun _ => .int
abbrev zcl : List vw_C := [(RX0, TX0, 2), (RX1, TX1, 2), (RX2, TX2, 3), (RX3, TX3, 9), (RX4, TX4, 16), (RX5, TX5, 12), (RX6, TX6, 12), (RX7, TX7, 45)]
theorem zcl_at : ∀ c, c < 8 → zcl[c]? = some (zR c, zT c, zF c)
  | 0, _ => rfl | 1, _ => rfl | 2, _ => rfl | 3, _ => rfl | 4, _ => rfl | 5, _ => rfl | 6, _ => rfl | 7, _ => rfl
  | n + 8, h => absurd h (by omega)
theorem zty_ok : ∀ c, c < 8 → ∀ k, k < zF c → parseFieldDescriptor (zT c k).2.2.1 = some (zt c k)
  | 0, _ => tyX0_ok | 1, _ => tyX1_ok | 2, _ => tyX2_ok | 3, _ => tyX3_ok | 4, _ => tyX4_ok | 5, _ => tyX5_ok | 6, _ => tyX6_ok | 7, _ => tyX7_ok
  | n + 8, h => absurd h (by omega)
theorem znm_ok : ∀ c, c < 8 → ∀ a, a < zF c → ∀ b, b < zF c → a ≠ b → (zT c a).2.1 ≠ (zT c b).2.1
  | 0, _ => nmX0 | 1, _ => nmX1 | 2, _ => nmX2 | 3, _ => nmX3 | 4, _ => nmX4 | 5, _ => nmX5 | 6, _ => nmX6 | 7, _ => nmX7
  | n + 8, h => absurd h (by omega)
def zG : List Cond := lw_tbl.filter goodWord
theorem zG_of {w : Cond} (h : w ∈ lw_tbl) (g : goodWord w = true) : w ∈ zG := List.mem_filter.mpr ⟨h, g⟩
theorem zG_at {w : Cond} (i : Nat) (h : lw_tbl[i]? = some w) (g : goodWord w = true) : w ∈ zG := zG_of (List.mem_of_getElem? h) g
theorem zG_tbl {w : Cond} (h : w ∈ zG) : w ∈ lw_tbl := (List.mem_filter.mp h).1
theorem zG_good {w : Cond} (h : w ∈ zG) : goodWord w = true := (List.mem_filter.mp h).2
theorem zgood_tbl {w : Cond} (h : w ∈ zG) : GoodIn zG (w :: zG) := fun v hv => by
  rcases List.mem_cons.mp hv with rfl | hv
  · exact ⟨h, good_of_word (zG_good h)⟩
  · exact ⟨hv, good_of_word (zG_good hv)⟩
theorem zG_ws (ws : List Cond) (h : ws.all (fun w => decide (w ∈ lw_tbl) && goodWord w) = true) : ∀ w ∈ ws, w ∈ zG := fun w hw => by
  have h1 := List.all_eq_true.mp h w hw
  simp only [Bool.and_eq_true, decide_eq_true_eq] at h1
  exact zG_of h1.1 h1.2
theorem zin_0 : ∀ w ∈ u_ws RX0 TX0 2, w ∈ zG := zG_ws _ (by decide +kernel)
theorem zin_1 : ∀ w ∈ u_ws RX1 TX1 2, w ∈ zG := zG_ws _ (by decide +kernel)
theorem zin_2 : ∀ w ∈ u_ws RX2 TX2 3, w ∈ zG := zG_ws _ (by decide +kernel)
theorem zin_3 : ∀ w ∈ u_ws RX3 TX3 9, w ∈ zG := zG_ws _ (by decide +kernel)
theorem zin_4 : ∀ w ∈ u_ws RX4 TX4 16, w ∈ zG := zG_ws _ (by decide +kernel)
theorem zin_5 : ∀ w ∈ u_ws RX5 TX5 12, w ∈ zG := zG_ws _ (by decide +kernel)
theorem zin_6 : ∀ w ∈ u_ws RX6 TX6 12, w ∈ zG := zG_ws _ (by decide +kernel)
theorem zin_7 : ∀ w ∈ u_ws RX7 TX7 45, w ∈ zG := zG_ws _ (by decide +kernel)
theorem zin_ok : ∀ c, c < 8 → ∀ w ∈ u_ws (zR c) (zT c) (zF c), w ∈ zG
  | 0, _ => zin_0 | 1, _ => zin_1 | 2, _ => zin_2 | 3, _ => zin_3 | 4, _ => zin_4 | 5, _ => zin_5 | 6, _ => zin_6 | 7, _ => zin_7
  | n + 8, h => absurd h (by omega)
def zNl : List Cond := [Cond.methodLinkNest "WantPlots" 9 ⟨"WantPlots$Page", "<init>", "()V"⟩ "WantPlots", Cond.methodLinkNest "WantPlots" 18 ⟨"WantPlots$Reader", "<init>", "()V"⟩ "WantPlots", Cond.methodLinkNest "WantPlots" 25 ⟨"WantPlots$Story", "<init>", "()V"⟩ "WantPlots", Cond.methodLinkNest "WantPlots" 32 ⟨"WantPlots$Search", "<init>", "()V"⟩ "WantPlots", Cond.methodLinkNest "WantPlots" 42 ⟨"WantPlots$Counter", "<init>", "()V"⟩ "WantPlots", Cond.methodLinkNest "WantPlots" 49 ⟨"WantPlots$World", "<init>", "()V"⟩ "WantPlots", Cond.methodLinkNest "WantPlots$Reader" 124 ⟨"WantPlots", "contains", "(II)Z"⟩ "WantPlots", Cond.methodLinkNest "WantPlots$Search" 44 ⟨"WantPlots", "holds", "(III)Z"⟩ "WantPlots", Cond.methodLinkNest "WantPlots$Search" 60 ⟨"WantPlots", "contains", "(II)Z"⟩ "WantPlots", Cond.methodLinkNest "WantPlots$Search" 76 ⟨"WantPlots", "changed", "(III)I"⟩ "WantPlots", Cond.methodLinkNest "WantPlots$Story" 70 ⟨"WantPlots", "changed", "(III)I"⟩ "WantPlots", Cond.methodLinkNest "WantPlots$Story" 87 ⟨"WantPlots", "contains", "(II)Z"⟩ "WantPlots", Cond.methodLinkNest "WantPlots$World" 49 ⟨"WantPlots", "holds", "(III)Z"⟩ "WantPlots", Cond.methodLinkNest "WantPlots$World" 57 ⟨"WantPlots", "contains", "(II)Z"⟩ "WantPlots", Cond.methodLinkNest "WantPlots$Story" 107 ⟨"WantPlots", "holds", "(III)Z"⟩ "WantPlots", Cond.methodLinkNest "WantPlots$Counter" 39 ⟨"WantPlots", "holds", "(III)Z"⟩ "WantPlots", Cond.methodLinkNest "WantPlots$Counter" 64 ⟨"WantPlots", "changed", "(III)I"⟩ "WantPlots"]
def zNe (U : State) : Prop := ∀ w ∈ zNl, va_Nw w U
theorem zNl_tbl : ∀ w ∈ zNl, w ∈ lw_tbl := by decide +kernel
theorem zNl_kind : zNl.all (fun w => match w with | .methodLinkNest .. => true | _ => false) = true := by decide +kernel
theorem zNe.warm {s U : State} (hW : s.WarmedH U.vm) (h : zNe s) : zNe U := fun w hw => by
  have k := List.all_eq_true.mp zNl_kind w hw
  have z := h w hw
  cases w with
  | methodLinkNest a i x q => exact va_Nw.warmM hW z
  | _ => simp at k
theorem zNe.same {s U : State} (e : s.vm = U.vm) (h : zNe s) : zNe U := fun w hw => by
  have k := List.all_eq_true.mp zNl_kind w hw
  have z := h w hw
  cases w with
  | methodLinkNest a i x q => exact va_Nw.same rfl e z
  | _ => simp at k
end
section
/-! A PURE MEMORY: cells by number; a cell is an array of ints (shape (0, n)), of booleans (1, n), or an object of class c (c + 2, its fields) -/
abbrev zSh : Type := Nat × Nat
abbrev zMI : Type := Nat → Nat → Int32
abbrev zMR : Type := Nat → Nat → Option Nat
/-- values: a reference is the number of a cell; a float stands for the script -/
def zcv (N b : Nat) : Value → Value
  | .ref k => .ref (N + k)
  | .float _ => .ref b
  | .int x => .int x
  | .long x => .long x
  | .double x => .double x
  | .null => .null
  | .retAddr x => .retAddr x
theorem zcv_cat (N b : Nat) (v : Value) : (zcv N b v).category = v.category := by cases v <;> rfl
def zfv (N : Nat) (t : FieldType) (i : Int32) (r : Option Nat) (h : Int64) : Value := match t with
  | .int => .int i
  | .boolean => .int i
  | .long => .long h
  | _ => va_rf (r.map (fun k => N + k))
def zce (N : Nat) (cI cZ : ClassId) (R : zMR) (h : Int64) (I : zMI) (k : Nat) (sh : zSh) : va_E := match sh.1 with
  | 0 => .inl (cI, sh.2, .inl (I k))
  | 1 => .inl (cZ, sh.2, .inl (I k))
  | c + 2 => .inr (c, (List.range sh.2).map (fun j => zfv N (zt c j) (I k j) (R k j) h))
def zw (N : Nat) (cI cZ : ClassId) (X : List zSh) (R : zMR) (h : Int64) (I : zMI) : va_W := X.mapIdx (fun k sh => (N + k, zce N cI cZ R h I k sh))
def zs (I : zMI) (k : Nat) (f : Nat → Int32) : zMI := fun a => if a = k then f else I a
def zrs (R : zMR) (k j : Nat) (r : Option Nat) : zMR := fun a b => if a = k ∧ b = j then r else R a b
theorem zs_eq (I : zMI) (k : Nat) (f : Nat → Int32) : zs I k f k = f := if_pos rfl
theorem zs_ne (I : zMI) {a k : Nat} (f : Nat → Int32) (h : a ≠ k) : zs I k f a = I a := if_neg h
theorem zw_at {N : Nat} {cI cZ : ClassId} {X : List zSh} {R : zMR} {h : Int64} {I : zMI} {k : Nat} {sh : zSh} (hk : X[k]? = some sh) : (zw N cI cZ X R h I)[k]? = some (N + k, zce N cI cZ R h I k sh) := by
  simp [zw, List.getElem?_mapIdx, hk]
theorem zw_inv {N : Nat} {cI cZ : ClassId} {X : List zSh} {R : zMR} {h : Int64} {I : zMI} {k : Nat} {q : Nat × va_E} (hk : (zw N cI cZ X R h I)[k]? = some q) : ∃ sh, X[k]? = some sh ∧ q = (N + k, zce N cI cZ R h I k sh) := by
  simp only [zw, List.getElem?_mapIdx, Option.map_eq_some_iff] at hk
  obtain ⟨sh, h1, h2⟩ := hk
  exact ⟨sh, h1, h2.symm⟩
theorem zw_D (N : Nat) (cI cZ : ClassId) (X : List zSh) (R : zMR) (h : Int64) (I : zMI) : va_D (fun q : Nat => N ≤ q) (zw N cI cZ X R h I) := by
  refine ⟨fun i j p q hi hj e => ?_, fun k q hk => ?_⟩
  · obtain ⟨_, _, rfl⟩ := zw_inv hi
    obtain ⟨_, _, rfl⟩ := zw_inv hj
    have : N + i = N + j := e
    omega
  · obtain ⟨_, _, rfl⟩ := zw_inv hk
    exact Nat.le_add_right N k
theorem zw_set {N : Nat} {cI cZ : ClassId} {X : List zSh} {R R' : zMR} {h h' : Int64} {I I' : zMI} {k : Nat} {sh : zSh} (hk : X[k]? = some sh) (ho : ∀ a sh', a ≠ k → X[a]? = some sh' → zce N cI cZ R' h' I' a sh' = zce N cI cZ R h I a sh') : (zw N cI cZ X R h I).set k (N + k, zce N cI cZ R' h' I' k sh) = zw N cI cZ X R' h' I' := by
  apply List.ext_getElem?
  intro a
  have hl : k < (zw N cI cZ X R h I).length := (List.getElem?_eq_some_iff.mp (zw_at hk)).1
  by_cases e : a = k
  · subst e
    rw [List.getElem?_set_self hl, zw_at hk]
  · rw [List.getElem?_set_ne (Ne.symm e)]
    cases hx : X[a]? with
    | none => simp [zw, List.getElem?_mapIdx, hx]
    | some sh' => rw [zw_at hx, zw_at hx, ho a sh' e hx]
theorem zce_row (N : Nat) (cI cZ : ClassId) (R : zMR) (h : Int64) (I : zMI) {a k : Nat} (f : Nat → Int32) (sh : zSh) (e : a ≠ k) : zce N cI cZ R h (zs I k f) a sh = zce N cI cZ R h I a sh := by
  simp only [zce, zs_ne I f e]
theorem zmap_set {n j : Nat} (g g' : Nat → Value) (v : Value) (hj : g' j = v) (ho : ∀ i, i < n → i ≠ j → g' i = g i) : ((List.range n).map g).set j v = (List.range n).map g' := by
  apply List.ext_getElem?
  intro a
  by_cases e : a = j
  · subst e
    by_cases hn : a < n
    · rw [List.getElem?_set_self (by simpa using hn)]
      simp [hn, hj]
    · rw [List.getElem?_eq_none (by simpa using hn), List.getElem?_eq_none (by simpa using hn)]
  · rw [List.getElem?_set_ne (Ne.symm e)]
    by_cases hn : a < n
    · simp [hn, ho a hn e]
    · rw [List.getElem?_eq_none (by simpa using hn), List.getElem?_eq_none (by simpa using hn)]
def zsl (X : List zSh) : Nat := (X.map (fun q => q.2)).sum
/-- the heap holds the memory -/
def zRp (D : va_G) (cI cZ : ClassId) (N : Nat) (X : List zSh) (R : zMR) (h : Int64) (I : zMI) (s : State) (H : Heap) (locs : List Loc) : Prop :=
  va_P D zcl (zw N cI cZ X R h I) H ∧ va_S (fun q : Nat => N ≤ q) s.heap H locs ∧ H.size = N + X.length
/-- a method: its name, code, locals, answer's type, level, (cells and slots at its start, that it makes), the script -/
abbrev zM : Type := MethodName × ByteArray × Nat × Option FieldType × Nat × (Nat × Nat × Nat × Nat) × Option (Nat × (Nat → Int32))
abbrev z_y (M : zM) : MethodName := M.1
abbrev z_cc (M : zM) : ByteArray := M.2.1
abbrev z_nL (M : zM) : Nat := M.2.2.1
abbrev z_ret (M : zM) : Option FieldType := M.2.2.2.1
abbrev z_lv (M : zM) : Nat := M.2.2.2.2.1
abbrev z_x0 (M : zM) : Nat := M.2.2.2.2.2.1.1
abbrev z_s0 (M : zM) : Nat := M.2.2.2.2.2.1.2.1
abbrev z_mc (M : zM) : Nat := M.2.2.2.2.2.1.2.2.1
abbrev z_ms (M : zM) : Nat := M.2.2.2.2.2.1.2.2.2
abbrev z_sc (M : zM) : Option (Nat × (Nat → Int32)) := M.2.2.2.2.2.2
def dc (M : zM) (pc : Nat) := decode (z_cc M) pc
def zSC (sc : Option (Nat × (Nat → Int32))) (b N : Nat) (s : State) : Prop := match sc with
  | none => True
  | some q => va_X b q.1 q.2 s s.heap ∧ b < s.heap.size ∧ b < N
abbrev zty (cI cZ : ClassId) : List (ClassId × FieldType) := [(cI, .int), (cZ, .boolean)]
def zCx (M : zM) (p : Program) (R : Room) (s : State) (m : MethodId) (args : Array Value) (meth : Method) (c : Code) (D : va_G) (cI cZ : ClassId) (N b : Nat) : Prop :=
  p.tables.exec = Jvm.exec ∧ c.code = z_cc M ∧ c.maxLocals = z_nL M ∧ meth.sig.returnType = z_ret M ∧ s.vm.findClass (z_y M).cls = some m.cls ∧ (∀ w ∈ zG, w.before args s = true) ∧ meth.locks = false ∧ ((z_y M).name = "<init>" → meth.name = "<init>") ∧ va_K D zcl (zty cI cZ) s ∧ zNe s ∧ (z_lv M ≤ R.frames ∧ 36 * z_lv M ≤ R.locals ∧ z_mc M ≤ R.cells ∧ z_ms M ≤ R.slots) ∧ N ≤ s.heap.size ∧ zSC (z_sc M) b N s
abbrev zPost : Type := Option Value → List zSh → zMR → Int64 → zMI → Prop
def zRet (M : zM) (pc : Nat) (v : Option Value) : Prop := match v with
  | none => dc M pc = .ok (.return_, 1) ∧ z_ret M = none
  | some (.int x) => dc M pc = .ok (.ireturn, 1) ∧ ((z_ret M = some .int) ∨ (z_ret M = some .boolean ∧ (x = 0 ∨ x = 1)))
  | some (.long _) => dc M pc = .ok (.lreturn, 1) ∧ z_ret M = some .long
  | _ => False
def zlva (N b : Nat) : Nat → List Value → List (Nat × Value)
  | _, [] => []
  | i, v :: r => match v with
    | .null => zlva N b (i + 1) r
    | v => (i, zcv N b v) :: zlva N b (i + 1) r
/-- the method goes from here to an end with P -/
def zGo (M : zM) (pc : Nat) (lv st : List Value) (X : List zSh) (R : zMR) (h : Int64) (I : zMI) (P : zPost) : Prop :=
  ∀ (p : Program) (l : Launch) (e : Env) (Rm : Room) (s : State) (m : MethodId) (args : Array Value) (below : List Frame) (meth : Method) (c : Code) (D : va_G) (cI cZ : ClassId) (N b : Nat) (Q : State → Prop),
    zCx M p Rm s m args meth c D cI cZ N b →
    (∀ (v : Option Value) (X' : List zSh) (R' : zMR) (h' : Int64) (I' : zMI) (H' : Heap) (locs' : List Loc) (ls' : Array Slot) (pc' : Nat), P v X' R' h' I' → zRp D cI cZ N X' R' h' I' s H' locs' → zRet M pc' v →
      W p l e Rm s m args below meth c H' locs' (X'.length - z_x0 M) (zsl X' - z_s0 M) Q (F0 m pc' ls' (v.toList.map (zcv N b)))) →
    ∀ (H : Heap) (locs : List Loc) (ls : Array Slot), zRp D cI cZ N X R h I s H locs → lv_has ls (z_nL M) (zlva N b 0 lv) →
      W p l e Rm s m args below meth c H locs (X.length - z_x0 M) (zsl X - z_s0 M) Q (F0 m pc ls (st.map (zcv N b)))
def zRm (M : zM) : Room := { frames := z_lv M, cells := z_mc M, slots := z_ms M, locals := 36 * z_lv M }
/-- a method's contract -/
def zEv (M : zM) (X : List zSh) (R : zMR) (h : Int64) (I : zMI) (av : List Value) (P : zPost) : Prop :=
  ∀ (l : Launch) (D : va_G) (cI cZ : ClassId) (N b : Nat), Met l (z_y M) (Cond.code (z_y M) (z_cc M) (z_nL M) (z_ret M) :: zG) (zRm M)
    (va_Pc (av.map (zcv N b)) (fun U => U.heap.size = N + X.length ∧ va_P D zcl (zw N cI cZ X R h I) U.heap ∧ va_K D zcl (zty cI cZ) U ∧ zNe U))
    (fun _ st oc t => (∃ (v : Option Value) (X' : List zSh) (R' : zMR) (h' : Int64) (I' : zMI), oc = .returned (v.map (zcv N b)) ∧ P v X' R' h' I' ∧ va_P D zcl (zw N cI cZ X' R' h' I') t.heap ∧ t.heap.size = N + X'.length ∧ X'.length = X.length + z_mc M ∧ zsl X' = zsl X + z_ms M) ∧ va_F (fun q : Nat => N ≤ q) st t)
    (z_mc M) (z_ms M) (fun q : Nat => N ≤ q)
theorem zlva_mem {N b : Nat} : ∀ {lv : List Value} {i : Nat} {q : Nat × Value}, q ∈ zlva N b i lv ↔ ∃ j v, lv[j]? = some v ∧ v ≠ .null ∧ q = (i + j, zcv N b v) := by
  intro lv
  induction lv with
  | nil => intro i q; simp [zlva]
  | cons w r ih =>
    intro i q
    have key : (∃ j v, (w :: r)[j]? = some v ∧ v ≠ .null ∧ q = (i + j, zcv N b v)) ↔ (w ≠ .null ∧ q = (i, zcv N b w)) ∨ ∃ j v, r[j]? = some v ∧ v ≠ .null ∧ q = (i + 1 + j, zcv N b v) := by
      constructor
      · rintro ⟨j, v, h1, h2, h3⟩
        cases j with
        | zero => simp at h1; subst h1; exact Or.inl ⟨h2, h3⟩
        | succ j => simp at h1; exact Or.inr ⟨j, v, h1, h2, by rw [h3]; congr 1; omega⟩
      · rintro (⟨h1, h2⟩ | ⟨j, v, h1, h2, h3⟩)
        · exact ⟨0, w, rfl, h1, h2⟩
        · exact ⟨j + 1, v, by simpa using h1, h2, by rw [h3]; congr 1; omega⟩
    rw [key]
    cases w <;> simp [zlva, ih]
/-- fewer or equal -/
theorem zlva_has {ls : Array Slot} {n N b : Nat} {lv : List Value} {l : List (Nat × Value)} (h : lv_has ls n l) (hs : ∀ q ∈ zlva N b 0 lv, q ∈ l) : lv_has ls n (zlva N b 0 lv) := ⟨h.1, h.2.1, fun q hq => h.2.2 q (hs q hq)⟩
theorem zlva_get {ls : Array Slot} {n N b i : Nat} {lv : List Value} {v : Value} (h : lv_has ls n (zlva N b 0 lv)) (hv : lv[i]? = some v) (hn : v ≠ .null) : ls[i]? = some (.val (zcv N b v)) := by
  have := h.2.2 (0 + i, zcv N b v) (zlva_mem.mpr ⟨i, v, hv, hn, rfl⟩)
  rwa [Nat.zero_add] at this
/-- is the place ahead of i no long? -/
def zok (lv : List Value) (i : Nat) : Bool := match i with
  | 0 => true
  | i + 1 => match lv[i]? with
    | some v => v.category == 1
    | none => true
theorem zlva_set1 {N b i : Nat} {lv : List Value} {v : Value} (ho : zok lv i = true) : ∀ q ∈ zlva N b 0 (lv.set i v), q ∈ (i, zcv N b v) :: (zlva N b 0 lv).filter (fun q => !(q.1 == i) && !(q.1 + 1 == i && q.2.category == 2)) := by
  intro q hq
  obtain ⟨j, w, h1, h2, h3⟩ := zlva_mem.mp hq
  by_cases e : j = i
  · subst e
    have hl : j < lv.length := by
      have := (List.getElem?_eq_some_iff.mp h1).1
      simpa using this
    rw [List.getElem?_set_self hl] at h1
    cases h1
    rw [h3, Nat.zero_add]
    exact List.mem_cons_self
  · rw [List.getElem?_set_ne (Ne.symm e)] at h1
    refine List.mem_cons_of_mem _ (List.mem_filter.mpr ⟨zlva_mem.mpr ⟨j, w, h1, h2, h3⟩, ?_⟩)
    subst h3
    simp only [Nat.zero_add, zcv_cat, Bool.and_eq_true, Bool.not_eq_true', beq_eq_false_iff_ne, ne_eq, Bool.and_eq_false_iff]
    refine ⟨e, ?_⟩
    by_cases e2 : j + 1 = i
    · subst e2
      right
      simp only [zok, h1, beq_iff_eq] at ho
      omega
    · exact Or.inl e2
theorem zlva_set2 {N b i : Nat} {lv : List Value} {v : Value} (ho : zok lv i = true) : ∀ q ∈ zlva N b 0 ((lv.set i v).set (i + 1) .null), q ∈ (i, zcv N b v) :: (zlva N b 0 lv).filter (fun q => !(q.1 == i) && (!(q.1 == i + 1) && !(q.1 + 1 == i && q.2.category == 2))) := by
  intro q hq
  obtain ⟨j, w, h1, h2, h3⟩ := zlva_mem.mp hq
  by_cases e1 : j = i + 1
  · subst e1
    have hl : i + 1 < (lv.set i v).length := by
      have := (List.getElem?_eq_some_iff.mp h1).1
      simpa using this
    rw [List.getElem?_set_self hl] at h1
    cases h1
    exact absurd rfl h2
  rw [List.getElem?_set_ne (Ne.symm e1)] at h1
  by_cases e : j = i
  · subst e
    have hl : j < lv.length := by
      have := (List.getElem?_eq_some_iff.mp h1).1
      simpa using this
    rw [List.getElem?_set_self hl] at h1
    cases h1
    rw [h3, Nat.zero_add]
    exact List.mem_cons_self
  · rw [List.getElem?_set_ne (Ne.symm e)] at h1
    refine List.mem_cons_of_mem _ (List.mem_filter.mpr ⟨zlva_mem.mpr ⟨j, w, h1, h2, h3⟩, ?_⟩)
    subst h3
    simp only [Nat.zero_add, zcv_cat, Bool.and_eq_true, Bool.not_eq_true', beq_eq_false_iff_ne, ne_eq, Bool.and_eq_false_iff]
    refine ⟨e, e1, ?_⟩
    by_cases e2 : j + 1 = i
    · subst e2
      right
      simp only [zok, h1, beq_iff_eq] at ho
      omega
    · exact Or.inl e2
end
section
/-! what stands at a place of a method's code -/
def dO (M : zM) (pc : Nat) (ins : Instr) (nx : Nat) : Prop := decode (z_cc M) pc = .ok (ins, 1) ∧ pc + 1 = nx
def dJ (M : zM) (pc : Nat) (ins : Int → Instr) (nx tgt : Nat) : Prop := ∃ off : Int, decode (z_cc M) pc = .ok (ins off, 3) ∧ (pc : Int) + off = (tgt : Int) ∧ pc + 3 = nx
def dKI (M : zM) (pc : Nat) (v : Int32) (nx : Nat) : Prop := (∃ n : Int, decode (z_cc M) pc = .ok (.iconst n, 1) ∧ Int32.ofInt n = v ∧ pc + 1 = nx) ∨ (∃ n : Int, decode (z_cc M) pc = .ok (.bipush n, 2) ∧ (Int8.ofInt n).toInt32 = v ∧ pc + 2 = nx) ∨ (∃ n : Int, decode (z_cc M) pc = .ok (.sipush n, 3) ∧ (Int16.ofInt n).toInt32 = v ∧ pc + 3 = nx) ∨ (∃ i : Nat, decode (z_cc M) pc = .ok (.ldc i, 2) ∧ Cond.constant (z_y M).cls i v ∈ zG ∧ pc + 2 = nx) ∨ (∃ i : Nat, decode (z_cc M) pc = .ok (.ldc_w i, 3) ∧ Cond.constant (z_y M).cls i v ∈ zG ∧ pc + 3 = nx)
def dKL (M : zM) (pc : Nat) (v : Int64) (nx : Nat) : Prop := ∃ i : Nat, decode (z_cc M) pc = .ok (.ldc2_w i, 3) ∧ Cond.constantLong (z_y M).cls i v ∈ zG ∧ pc + 3 = nx
def dII (M : zM) (pc i : Nat) (v : Int32) (nx : Nat) : Prop := ∃ n : Int, decode (z_cc M) pc = .ok (.iinc i n, 3) ∧ Int32.ofInt n = v ∧ pc + 3 = nx ∧ i < z_nL M
def dGF (M : zM) (pc c j nx : Nat) : Prop := ∃ idx : Nat, decode (z_cc M) pc = .ok (.getfield idx, 3) ∧ Cond.fieldLink (z_y M).cls idx (zT c j).1 (zT c j).2.1 (zT c j).2.2.1 ∈ zG ∧ (c < 8 ∧ j < zF c) ∧ pc + 3 = nx
def dPF (M : zM) (pc c j nx : Nat) : Prop := ∃ idx : Nat, decode (z_cc M) pc = .ok (.putfield idx, 3) ∧ Cond.fieldLink (z_y M).cls idx (zT c j).1 (zT c j).2.1 (zT c j).2.2.1 ∈ zG ∧ (c < 8 ∧ j < zF c) ∧ pc + 3 = nx
def dIL (M : zM) (pc i nx : Nat) : Prop := ((∃ k : Fin 4, decode (z_cc M) pc = .ok (.iload_n k, 1) ∧ (k : Nat) = i ∧ pc + 1 = nx) ∨ (decode (z_cc M) pc = .ok (.iload i, 2) ∧ pc + 2 = nx))
def dAL (M : zM) (pc i nx : Nat) : Prop := ((∃ k : Fin 4, decode (z_cc M) pc = .ok (.aload_n k, 1) ∧ (k : Nat) = i ∧ pc + 1 = nx) ∨ (decode (z_cc M) pc = .ok (.aload i, 2) ∧ pc + 2 = nx))
def dLL (M : zM) (pc i nx : Nat) : Prop := ((∃ k : Fin 4, decode (z_cc M) pc = .ok (.lload_n k, 1) ∧ (k : Nat) = i ∧ pc + 1 = nx) ∨ (decode (z_cc M) pc = .ok (.lload i, 2) ∧ pc + 2 = nx))
def dIS (M : zM) (pc i nx : Nat) : Prop := ((∃ k : Fin 4, decode (z_cc M) pc = .ok (.istore_n k, 1) ∧ (k : Nat) = i ∧ pc + 1 = nx) ∨ (decode (z_cc M) pc = .ok (.istore i, 2) ∧ pc + 2 = nx)) ∧ i < z_nL M
def dAS (M : zM) (pc i nx : Nat) : Prop := ((∃ k : Fin 4, decode (z_cc M) pc = .ok (.astore_n k, 1) ∧ (k : Nat) = i ∧ pc + 1 = nx) ∨ (decode (z_cc M) pc = .ok (.astore i, 2) ∧ pc + 2 = nx)) ∧ i < z_nL M
def dLS (M : zM) (pc i nx : Nat) : Prop := ((∃ k : Fin 4, decode (z_cc M) pc = .ok (.lstore_n k, 1) ∧ (k : Nat) = i ∧ pc + 1 = nx) ∨ (decode (z_cc M) pc = .ok (.lstore i, 2) ∧ pc + 2 = nx)) ∧ i + 1 < z_nL M
section GR
variable {M : zM} {pc nx tgt : Nat} {lv rest : List Value} {X : List zSh} {R : zMR} {h : Int64} {I : zMI} {P : zPost}
theorem g_iadd {x y : Int32} (hd : dO M pc .iadd nx) (k : zGo M nx lv (.int (x + y) :: rest) X R h I P) : zGo M pc lv (.int y :: .int x :: rest) X R h I P := by
  obtain ⟨hd, rfl⟩ := hd
  intro p l e Rm s m args below meth c D cI cZ N b Q C K H locs ls hR hl
  exact lv_iadd C.1 C.2.1 hd (k p l e Rm s m args below meth c D cI cZ N b Q C K H locs ls hR hl)
theorem g_isub {x y : Int32} (hd : dO M pc .isub nx) (k : zGo M nx lv (.int (x - y) :: rest) X R h I P) : zGo M pc lv (.int y :: .int x :: rest) X R h I P := by
  obtain ⟨hd, rfl⟩ := hd
  intro p l e Rm s m args below meth c D cI cZ N b Q C K H locs ls hR hl
  exact lv_isub C.1 C.2.1 hd (k p l e Rm s m args below meth c D cI cZ N b Q C K H locs ls hR hl)
theorem g_imul {x y : Int32} (hd : dO M pc .imul nx) (k : zGo M nx lv (.int (x * y) :: rest) X R h I P) : zGo M pc lv (.int y :: .int x :: rest) X R h I P := by
  obtain ⟨hd, rfl⟩ := hd
  intro p l e Rm s m args below meth c D cI cZ N b Q C K H locs ls hR hl
  exact lv_imul C.1 C.2.1 hd (k p l e Rm s m args below meth c D cI cZ N b Q C K H locs ls hR hl)
theorem g_iand {x y : Int32} (hd : dO M pc .iand nx) (k : zGo M nx lv (.int (x &&& y) :: rest) X R h I P) : zGo M pc lv (.int y :: .int x :: rest) X R h I P := by
  obtain ⟨hd, rfl⟩ := hd
  intro p l e Rm s m args below meth c D cI cZ N b Q C K H locs ls hR hl
  exact lv_iand C.1 C.2.1 hd (k p l e Rm s m args below meth c D cI cZ N b Q C K H locs ls hR hl)
theorem g_ior {x y : Int32} (hd : dO M pc .ior nx) (k : zGo M nx lv (.int (x ||| y) :: rest) X R h I P) : zGo M pc lv (.int y :: .int x :: rest) X R h I P := by
  obtain ⟨hd, rfl⟩ := hd
  intro p l e Rm s m args below meth c D cI cZ N b Q C K H locs ls hR hl
  exact lv_ior C.1 C.2.1 hd (k p l e Rm s m args below meth c D cI cZ N b Q C K H locs ls hR hl)
theorem g_ixor {x y : Int32} (hd : dO M pc .ixor nx) (k : zGo M nx lv (.int (x ^^^ y) :: rest) X R h I P) : zGo M pc lv (.int y :: .int x :: rest) X R h I P := by
  obtain ⟨hd, rfl⟩ := hd
  intro p l e Rm s m args below meth c D cI cZ N b Q C K H locs ls hR hl
  exact lv_ixor C.1 C.2.1 hd (k p l e Rm s m args below meth c D cI cZ N b Q C K H locs ls hR hl)
theorem g_ishl {x y : Int32} (hd : dO M pc .ishl nx) (k : zGo M nx lv (.int (x <<< (y &&& 31)) :: rest) X R h I P) : zGo M pc lv (.int y :: .int x :: rest) X R h I P := by
  obtain ⟨hd, rfl⟩ := hd
  intro p l e Rm s m args below meth c D cI cZ N b Q C K H locs ls hR hl
  exact lv_ishl C.1 C.2.1 hd (k p l e Rm s m args below meth c D cI cZ N b Q C K H locs ls hR hl)
theorem g_ishr {x y : Int32} (hd : dO M pc .ishr nx) (k : zGo M nx lv (.int (x >>> (y &&& 31)) :: rest) X R h I P) : zGo M pc lv (.int y :: .int x :: rest) X R h I P := by
  obtain ⟨hd, rfl⟩ := hd
  intro p l e Rm s m args below meth c D cI cZ N b Q C K H locs ls hR hl
  exact lv_ishr C.1 C.2.1 hd (k p l e Rm s m args below meth c D cI cZ N b Q C K H locs ls hR hl)
theorem g_ladd {x y : Int64} (hd : dO M pc .ladd nx) (k : zGo M nx lv (.long (x + y) :: rest) X R h I P) : zGo M pc lv (.long y :: .long x :: rest) X R h I P := by
  obtain ⟨hd, rfl⟩ := hd
  intro p l e Rm s m args below meth c D cI cZ N b Q C K H locs ls hR hl
  exact lv_ladd C.1 C.2.1 hd (k p l e Rm s m args below meth c D cI cZ N b Q C K H locs ls hR hl)
theorem g_lmul {x y : Int64} (hd : dO M pc .lmul nx) (k : zGo M nx lv (.long (x * y) :: rest) X R h I P) : zGo M pc lv (.long y :: .long x :: rest) X R h I P := by
  obtain ⟨hd, rfl⟩ := hd
  intro p l e Rm s m args below meth c D cI cZ N b Q C K H locs ls hR hl
  exact lv_lmul C.1 C.2.1 hd (k p l e Rm s m args below meth c D cI cZ N b Q C K H locs ls hR hl)
theorem g_idiv {x y : Int32} (hd : dO M pc .idiv nx) (hne : ¬ y = 0) (k : zGo M nx lv (.int (x / y) :: rest) X R h I P) : zGo M pc lv (.int y :: .int x :: rest) X R h I P := by
  obtain ⟨hd, rfl⟩ := hd
  intro p l e Rm s m args below meth c D cI cZ N b Q C K H locs ls hR hl
  exact lv_idiv C.1 C.2.1 hd hne (k p l e Rm s m args below meth c D cI cZ N b Q C K H locs ls hR hl)
theorem g_irem {x y : Int32} (hd : dO M pc .irem nx) (hne : ¬ y = 0) (k : zGo M nx lv (.int (x - x / y * y) :: rest) X R h I P) : zGo M pc lv (.int y :: .int x :: rest) X R h I P := by
  obtain ⟨hd, rfl⟩ := hd
  intro p l e Rm s m args below meth c D cI cZ N b Q C K H locs ls hR hl
  exact lv_irem C.1 C.2.1 hd hne (k p l e Rm s m args below meth c D cI cZ N b Q C K H locs ls hR hl)
theorem g_iushr {x y : Int32} (hd : dO M pc .iushr nx) (k : zGo M nx lv (.int ((x.toUInt32 >>> (y.toUInt32 &&& Int32.toUInt32 31)).toInt32) :: rest) X R h I P) : zGo M pc lv (.int y :: .int x :: rest) X R h I P := by
  obtain ⟨hd, rfl⟩ := hd
  intro p l e Rm s m args below meth c D cI cZ N b Q C K H locs ls hR hl
  exact lv_iushr C.1 C.2.1 hd rfl (k p l e Rm s m args below meth c D cI cZ N b Q C K H locs ls hR hl)
theorem g_i2l {x : Int32} (hd : dO M pc .i2l nx) (k : zGo M nx lv (.long x.toInt64 :: rest) X R h I P) : zGo M pc lv (.int x :: rest) X R h I P := by
  obtain ⟨hd, rfl⟩ := hd
  intro p l e Rm s m args below meth c D cI cZ N b Q C K H locs ls hR hl
  exact lv_i2l C.1 C.2.1 hd rfl (k p l e Rm s m args below meth c D cI cZ N b Q C K H locs ls hR hl)
theorem g_lcmp {x y : Int64} (hd : dO M pc .lcmp nx) (k : zGo M nx lv (.int (lg_cmp x y) :: rest) X R h I P) : zGo M pc lv (.long y :: .long x :: rest) X R h I P := by
  obtain ⟨hd, rfl⟩ := hd
  intro p l e Rm s m args below meth c D cI cZ N b Q C K H locs ls hR hl
  exact W.lcmp C.1 C.2.1 hd (k p l e Rm s m args below meth c D cI cZ N b Q C K H locs ls hR hl)
theorem g_dup {v : Value} (hd : dO M pc .dup nx) (hc : v.category = 1) (k : zGo M nx lv (v :: v :: rest) X R h I P) : zGo M pc lv (v :: rest) X R h I P := by
  obtain ⟨hd, rfl⟩ := hd
  intro p l e Rm s m args below meth c D cI cZ N b Q C K H locs ls hR hl
  exact lv_dup C.1 C.2.1 hd ((zcv_cat N b v).trans hc) (k p l e Rm s m args below meth c D cI cZ N b Q C K H locs ls hR hl)
theorem g_pop {v : Value} (hd : dO M pc .pop nx) (hc : v.category = 1) (k : zGo M nx lv rest X R h I P) : zGo M pc lv (v :: rest) X R h I P := by
  obtain ⟨hd, rfl⟩ := hd
  intro p l e Rm s m args below meth c D cI cZ N b Q C K H locs ls hR hl
  exact lv_pop C.1 C.2.1 hd ((zcv_cat N b v).trans hc) (k p l e Rm s m args below meth c D cI cZ N b Q C K H locs ls hR hl)
theorem g_dup2 {v w : Value} (hd : dO M pc .dup2 nx) (hc : v.category = 1) (hc2 : w.category = 1) (k : zGo M nx lv (v :: w :: v :: w :: rest) X R h I P) : zGo M pc lv (v :: w :: rest) X R h I P := by
  obtain ⟨hd, rfl⟩ := hd
  intro p l e Rm s m args below meth c D cI cZ N b Q C K H locs ls hR hl
  exact lv_dup2_11 C.1 C.2.1 hd ((zcv_cat N b v).trans hc) ((zcv_cat N b w).trans hc2) (k p l e Rm s m args below meth c D cI cZ N b Q C K H locs ls hR hl)
theorem g_k {v : Int32} (hd : dKI M pc v nx) (k : zGo M nx lv (.int v :: rest) X R h I P) : zGo M pc lv rest X R h I P := by
  intro p l e Rm s m args below meth c D cI cZ N b Q C K H locs ls hR hl
  rcases hd with ⟨n, hd, hv, rfl⟩ | ⟨n, hd, hv, rfl⟩ | ⟨n, hd, hv, rfl⟩ | ⟨i, hd, hv, rfl⟩ | ⟨i, hd, hv, rfl⟩
  · exact lv_iconst C.1 C.2.1 hd hv (k p l e Rm s m args below meth c D cI cZ N b Q C K H locs ls hR hl)
  · exact lv_bipush C.1 C.2.1 hd hv (k p l e Rm s m args below meth c D cI cZ N b Q C K H locs ls hR hl)
  · exact lv_sipush C.1 C.2.1 hd hv (k p l e Rm s m args below meth c D cI cZ N b Q C K H locs ls hR hl)
  · exact lv_ldc C.1 C.2.1 C.2.2.2.2.1 (C.2.2.2.2.2.1 _ hv) hd (k p l e Rm s m args below meth c D cI cZ N b Q C K H locs ls hR hl)
  · exact lv_ldcw C.1 C.2.1 C.2.2.2.2.1 (C.2.2.2.2.2.1 _ hv) hd (k p l e Rm s m args below meth c D cI cZ N b Q C K H locs ls hR hl)
theorem g_kl {v : Int64} (hd : dKL M pc v nx) (k : zGo M nx lv (.long v :: rest) X R h I P) : zGo M pc lv rest X R h I P := by
  intro p l e Rm s m args below meth c D cI cZ N b Q C K H locs ls hR hl
  obtain ⟨i, hd, hv, rfl⟩ := hd
  exact lv_ldc2 C.1 C.2.1 C.2.2.2.2.1 (C.2.2.2.2.2.1 _ hv) hd (k p l e Rm s m args below meth c D cI cZ N b Q C K H locs ls hR hl)
theorem g_iload {i : Nat} {x : Int32} (hd : dIL M pc i nx) (hx : lv[i]? = some (.int x)) (k : zGo M nx lv (.int x :: rest) X R h I P) : zGo M pc lv rest X R h I P := by
  intro p l e Rm s m args below meth c D cI cZ N b Q C K H locs ls hR hl
  have hg := zlva_get hl hx (by simp)
  rcases hd with ⟨n, hd, rfl, rfl⟩ | ⟨hd, rfl⟩
  · exact lv_iload_n C.1 C.2.1 hd rfl hg (k p l e Rm s m args below meth c D cI cZ N b Q C K H locs ls hR hl)
  · exact lv_iload C.1 C.2.1 hd hg (k p l e Rm s m args below meth c D cI cZ N b Q C K H locs ls hR hl)
theorem g_aload {i : Nat} {x : Nat} (hd : dAL M pc i nx) (hx : lv[i]? = some (.ref x)) (k : zGo M nx lv (.ref x :: rest) X R h I P) : zGo M pc lv rest X R h I P := by
  intro p l e Rm s m args below meth c D cI cZ N b Q C K H locs ls hR hl
  have hg := zlva_get hl hx (by simp)
  rcases hd with ⟨n, hd, rfl, rfl⟩ | ⟨hd, rfl⟩
  · exact lv_aload_n C.1 C.2.1 hd rfl hg (k p l e Rm s m args below meth c D cI cZ N b Q C K H locs ls hR hl)
  · exact lv_aload C.1 C.2.1 hd hg (k p l e Rm s m args below meth c D cI cZ N b Q C K H locs ls hR hl)
theorem g_lload {i : Nat} {x : Int64} (hd : dLL M pc i nx) (hx : lv[i]? = some (.long x)) (k : zGo M nx lv (.long x :: rest) X R h I P) : zGo M pc lv rest X R h I P := by
  intro p l e Rm s m args below meth c D cI cZ N b Q C K H locs ls hR hl
  have hg := zlva_get hl hx (by simp)
  rcases hd with ⟨n, hd, rfl, rfl⟩ | ⟨hd, rfl⟩
  · exact lv_lload_n C.1 C.2.1 hd rfl hg (k p l e Rm s m args below meth c D cI cZ N b Q C K H locs ls hR hl)
  · exact lv_lload C.1 C.2.1 hd hg (k p l e Rm s m args below meth c D cI cZ N b Q C K H locs ls hR hl)
theorem g_aloadS {i : Nat} {x : UInt32} (hd : dAL M pc i nx) (hx : lv[i]? = some (.float x)) (k : zGo M nx lv (.float x :: rest) X R h I P) : zGo M pc lv rest X R h I P := by
  intro p l e Rm s m args below meth c D cI cZ N b Q C K H locs ls hR hl
  have hg := zlva_get hl hx (by simp)
  rcases hd with ⟨n, hd, rfl, rfl⟩ | ⟨hd, rfl⟩
  · exact lv_aload_n C.1 C.2.1 hd rfl hg (k p l e Rm s m args below meth c D cI cZ N b Q C K H locs ls hR hl)
  · exact lv_aload C.1 C.2.1 hd hg (k p l e Rm s m args below meth c D cI cZ N b Q C K H locs ls hR hl)
theorem g_istore {i : Nat} {x : Int32} (hd : dIS M pc i nx) (ho : zok lv i = true) (k : zGo M nx (lv.set i (.int x)) rest X R h I P) : zGo M pc lv (.int x :: rest) X R h I P := by
  intro p l e Rm s m args below meth c D cI cZ N b Q C K H locs ls hR hl
  obtain ⟨hd, hn⟩ := hd
  rcases hd with ⟨n, hd, rfl, rfl⟩ | ⟨hd, rfl⟩
  · exact lv_istore_n C.1 C.2.1 hd rfl hl hn rfl (fun ls2 h2 => k p l e Rm s m args below meth c D cI cZ N b Q C K H locs ls2 hR (zlva_has h2 (zlva_set1 ho)))
  · exact lv_istore C.1 C.2.1 hd hl hn rfl (fun ls2 h2 => k p l e Rm s m args below meth c D cI cZ N b Q C K H locs ls2 hR (zlva_has h2 (zlva_set1 ho)))
theorem g_astore {i : Nat} {x : Nat} (hd : dAS M pc i nx) (ho : zok lv i = true) (k : zGo M nx (lv.set i (.ref x)) rest X R h I P) : zGo M pc lv (.ref x :: rest) X R h I P := by
  intro p l e Rm s m args below meth c D cI cZ N b Q C K H locs ls hR hl
  obtain ⟨hd, hn⟩ := hd
  rcases hd with ⟨n, hd, rfl, rfl⟩ | ⟨hd, rfl⟩
  · exact lv_astore_n C.1 C.2.1 hd rfl hl hn rfl (fun ls2 h2 => k p l e Rm s m args below meth c D cI cZ N b Q C K H locs ls2 hR (zlva_has h2 (zlva_set1 ho)))
  · exact lv_astore C.1 C.2.1 hd hl hn rfl (fun ls2 h2 => k p l e Rm s m args below meth c D cI cZ N b Q C K H locs ls2 hR (zlva_has h2 (zlva_set1 ho)))
theorem g_lstore {i : Nat} {x : Int64} (hd : dLS M pc i nx) (ho : zok lv i = true) (k : zGo M nx ((lv.set i (.long x)).set (i + 1) .null) rest X R h I P) : zGo M pc lv (.long x :: rest) X R h I P := by
  intro p l e Rm s m args below meth c D cI cZ N b Q C K H locs ls hR hl
  obtain ⟨hd, hn⟩ := hd
  rcases hd with ⟨n, hd, rfl, rfl⟩ | ⟨hd, rfl⟩
  · exact lv_lstore_n C.1 C.2.1 hd rfl hl hn rfl (fun ls2 h2 => k p l e Rm s m args below meth c D cI cZ N b Q C K H locs ls2 hR (zlva_has h2 (zlva_set2 ho)))
  · exact lv_lstore C.1 C.2.1 hd hl hn rfl (fun ls2 h2 => k p l e Rm s m args below meth c D cI cZ N b Q C K H locs ls2 hR (zlva_has h2 (zlva_set2 ho)))
theorem g_iinc {i : Nat} {x v : Int32} (hd : dII M pc i v nx) (hx : lv[i]? = some (.int x)) (ho : zok lv i = true) (k : zGo M nx (lv.set i (.int (x + v))) rest X R h I P) : zGo M pc lv rest X R h I P := by
  intro p l e Rm s m args below meth c D cI cZ N b Q C K H locs ls hR hl
  obtain ⟨n, hd, rfl, rfl, hn⟩ := hd
  have hm : (0 + i, zcv N b (.int x)) ∈ zlva N b 0 lv := zlva_mem.mpr ⟨i, _, hx, by simp, rfl⟩
  rw [Nat.zero_add] at hm
  obtain ⟨kk, hk⟩ := List.getElem?_of_mem hm
  exact lv_iinc C.1 C.2.1 hd hl hk rfl hn rfl (fun ls2 h2 => k p l e Rm s m args below meth c D cI cZ N b Q C K H locs ls2 hR (zlva_has h2 (zlva_set1 (v := .int (x + Int32.ofInt n)) ho)))
-- eq
-- ne
-- lt
-- ge
-- gt
-- le
theorem g_goto (hd : dJ M pc .goto nx tgt) (k : zGo M tgt lv rest X R h I P) : zGo M pc lv rest X R h I P := by
  intro p l e Rm s m args below meth c D cI cZ N b Q C K H locs ls hR hl
  obtain ⟨off, hd, ht, rfl⟩ := hd
  exact lv_goto C.1 C.2.1 hd ht (k p l e Rm s m args below meth c D cI cZ N b Q C K H locs ls hR hl)
end GR
end
section
section GR
variable {M : zM} {pc nx tgt : Nat} {lv rest : List Value} {X : List zSh} {R : zMR} {h : Int64} {I : zMI} {P : zPost}
theorem g_ifeq {x : Int32} (hd : dJ M pc (.ifCond .eq) nx tgt) (kt : x = 0 → zGo M tgt lv rest X R h I P) (kf : ¬ x = 0 → zGo M nx lv rest X R h I P) : zGo M pc lv (.int x :: rest) X R h I P := by
  intro p l e Rm s m args below meth cd D cI cZ N b Q C K H locs ls hR hl
  obtain ⟨off, hd, ht, rfl⟩ := hd
  exact lv_if_eq C.1 C.2.1 hd ht (fun z => kt z p l e Rm s m args below meth cd D cI cZ N b Q C K H locs ls hR hl) (fun z => kf z p l e Rm s m args below meth cd D cI cZ N b Q C K H locs ls hR hl)
theorem g_iceq {x y : Int32} (hd : dJ M pc (.if_icmp .eq) nx tgt) (kt : x = y → zGo M tgt lv rest X R h I P) (kf : ¬ x = y → zGo M nx lv rest X R h I P) : zGo M pc lv (.int y :: .int x :: rest) X R h I P := by
  intro p l e Rm s m args below meth cd D cI cZ N b Q C K H locs ls hR hl
  obtain ⟨off, hd, ht, rfl⟩ := hd
  exact lv_icmp_eq C.1 C.2.1 hd ht (fun z => kt z p l e Rm s m args below meth cd D cI cZ N b Q C K H locs ls hR hl) (fun z => kf z p l e Rm s m args below meth cd D cI cZ N b Q C K H locs ls hR hl)
theorem g_ifne {x : Int32} (hd : dJ M pc (.ifCond .ne) nx tgt) (kt : ¬ x = 0 → zGo M tgt lv rest X R h I P) (kf : x = 0 → zGo M nx lv rest X R h I P) : zGo M pc lv (.int x :: rest) X R h I P := by
  intro p l e Rm s m args below meth cd D cI cZ N b Q C K H locs ls hR hl
  obtain ⟨off, hd, ht, rfl⟩ := hd
  exact lv_if_ne C.1 C.2.1 hd ht (fun z => kt z p l e Rm s m args below meth cd D cI cZ N b Q C K H locs ls hR hl) (fun z => kf z p l e Rm s m args below meth cd D cI cZ N b Q C K H locs ls hR hl)
theorem g_icne {x y : Int32} (hd : dJ M pc (.if_icmp .ne) nx tgt) (kt : ¬ x = y → zGo M tgt lv rest X R h I P) (kf : x = y → zGo M nx lv rest X R h I P) : zGo M pc lv (.int y :: .int x :: rest) X R h I P := by
  intro p l e Rm s m args below meth cd D cI cZ N b Q C K H locs ls hR hl
  obtain ⟨off, hd, ht, rfl⟩ := hd
  exact lv_icmp_ne C.1 C.2.1 hd ht (fun z => kt z p l e Rm s m args below meth cd D cI cZ N b Q C K H locs ls hR hl) (fun z => kf z p l e Rm s m args below meth cd D cI cZ N b Q C K H locs ls hR hl)
theorem g_iflt {x : Int32} (hd : dJ M pc (.ifCond .lt) nx tgt) (kt : x < 0 → zGo M tgt lv rest X R h I P) (kf : ¬ x < 0 → zGo M nx lv rest X R h I P) : zGo M pc lv (.int x :: rest) X R h I P := by
  intro p l e Rm s m args below meth cd D cI cZ N b Q C K H locs ls hR hl
  obtain ⟨off, hd, ht, rfl⟩ := hd
  exact lv_if_lt C.1 C.2.1 hd ht (fun z => kt z p l e Rm s m args below meth cd D cI cZ N b Q C K H locs ls hR hl) (fun z => kf z p l e Rm s m args below meth cd D cI cZ N b Q C K H locs ls hR hl)
theorem g_iclt {x y : Int32} (hd : dJ M pc (.if_icmp .lt) nx tgt) (kt : x < y → zGo M tgt lv rest X R h I P) (kf : ¬ x < y → zGo M nx lv rest X R h I P) : zGo M pc lv (.int y :: .int x :: rest) X R h I P := by
  intro p l e Rm s m args below meth cd D cI cZ N b Q C K H locs ls hR hl
  obtain ⟨off, hd, ht, rfl⟩ := hd
  exact lv_icmp_lt C.1 C.2.1 hd ht (fun z => kt z p l e Rm s m args below meth cd D cI cZ N b Q C K H locs ls hR hl) (fun z => kf z p l e Rm s m args below meth cd D cI cZ N b Q C K H locs ls hR hl)
theorem g_ifge {x : Int32} (hd : dJ M pc (.ifCond .ge) nx tgt) (kt : 0 ≤ x → zGo M tgt lv rest X R h I P) (kf : ¬ 0 ≤ x → zGo M nx lv rest X R h I P) : zGo M pc lv (.int x :: rest) X R h I P := by
  intro p l e Rm s m args below meth cd D cI cZ N b Q C K H locs ls hR hl
  obtain ⟨off, hd, ht, rfl⟩ := hd
  exact lv_if_ge C.1 C.2.1 hd ht (fun z => kt z p l e Rm s m args below meth cd D cI cZ N b Q C K H locs ls hR hl) (fun z => kf z p l e Rm s m args below meth cd D cI cZ N b Q C K H locs ls hR hl)
theorem g_icge {x y : Int32} (hd : dJ M pc (.if_icmp .ge) nx tgt) (kt : y ≤ x → zGo M tgt lv rest X R h I P) (kf : ¬ y ≤ x → zGo M nx lv rest X R h I P) : zGo M pc lv (.int y :: .int x :: rest) X R h I P := by
  intro p l e Rm s m args below meth cd D cI cZ N b Q C K H locs ls hR hl
  obtain ⟨off, hd, ht, rfl⟩ := hd
  exact lv_icmp_ge C.1 C.2.1 hd ht (fun z => kt z p l e Rm s m args below meth cd D cI cZ N b Q C K H locs ls hR hl) (fun z => kf z p l e Rm s m args below meth cd D cI cZ N b Q C K H locs ls hR hl)
theorem g_ifgt {x : Int32} (hd : dJ M pc (.ifCond .gt) nx tgt) (kt : 0 < x → zGo M tgt lv rest X R h I P) (kf : ¬ 0 < x → zGo M nx lv rest X R h I P) : zGo M pc lv (.int x :: rest) X R h I P := by
  intro p l e Rm s m args below meth cd D cI cZ N b Q C K H locs ls hR hl
  obtain ⟨off, hd, ht, rfl⟩ := hd
  exact lv_if_gt C.1 C.2.1 hd ht (fun z => kt z p l e Rm s m args below meth cd D cI cZ N b Q C K H locs ls hR hl) (fun z => kf z p l e Rm s m args below meth cd D cI cZ N b Q C K H locs ls hR hl)
theorem g_icgt {x y : Int32} (hd : dJ M pc (.if_icmp .gt) nx tgt) (kt : y < x → zGo M tgt lv rest X R h I P) (kf : ¬ y < x → zGo M nx lv rest X R h I P) : zGo M pc lv (.int y :: .int x :: rest) X R h I P := by
  intro p l e Rm s m args below meth cd D cI cZ N b Q C K H locs ls hR hl
  obtain ⟨off, hd, ht, rfl⟩ := hd
  exact lv_icmp_gt C.1 C.2.1 hd ht (fun z => kt z p l e Rm s m args below meth cd D cI cZ N b Q C K H locs ls hR hl) (fun z => kf z p l e Rm s m args below meth cd D cI cZ N b Q C K H locs ls hR hl)
theorem g_ifle {x : Int32} (hd : dJ M pc (.ifCond .le) nx tgt) (kt : x ≤ 0 → zGo M tgt lv rest X R h I P) (kf : ¬ x ≤ 0 → zGo M nx lv rest X R h I P) : zGo M pc lv (.int x :: rest) X R h I P := by
  intro p l e Rm s m args below meth cd D cI cZ N b Q C K H locs ls hR hl
  obtain ⟨off, hd, ht, rfl⟩ := hd
  exact lv_if_le C.1 C.2.1 hd ht (fun z => kt z p l e Rm s m args below meth cd D cI cZ N b Q C K H locs ls hR hl) (fun z => kf z p l e Rm s m args below meth cd D cI cZ N b Q C K H locs ls hR hl)
theorem g_icle {x y : Int32} (hd : dJ M pc (.if_icmp .le) nx tgt) (kt : x ≤ y → zGo M tgt lv rest X R h I P) (kf : ¬ x ≤ y → zGo M nx lv rest X R h I P) : zGo M pc lv (.int y :: .int x :: rest) X R h I P := by
  intro p l e Rm s m args below meth cd D cI cZ N b Q C K H locs ls hR hl
  obtain ⟨off, hd, ht, rfl⟩ := hd
  exact lv_icmp_le C.1 C.2.1 hd ht (fun z => kt z p l e Rm s m args below meth cd D cI cZ N b Q C K H locs ls hR hl) (fun z => kf z p l e Rm s m args below meth cd D cI cZ N b Q C K H locs ls hR hl)
theorem g_icgeN {i n : Nat} (hd : dJ M pc (.if_icmp .ge) nx tgt) (hi : i < 2 ^ 31) (hn : n < 2 ^ 31) (kt : n ≤ i → zGo M tgt lv rest X R h I P) (kf : i < n → zGo M nx lv rest X R h I P) : zGo M pc lv (.int (nI n) :: .int (nI i) :: rest) X R h I P :=
  g_icge hd (fun z => kt ((nI_leI hn hi).mp z)) (fun z => kf (Nat.lt_of_not_le fun q => z ((nI_leI hn hi).mpr q)))
theorem g_icgtN {i n : Nat} (hd : dJ M pc (.if_icmp .gt) nx tgt) (hi : i < 2 ^ 31) (hn : n < 2 ^ 31) (kt : n < i → zGo M tgt lv rest X R h I P) (kf : i ≤ n → zGo M nx lv rest X R h I P) : zGo M pc lv (.int (nI n) :: .int (nI i) :: rest) X R h I P :=
  g_icgt hd (fun z => kt ((nI_ltI hn hi).mp z)) (fun z => kf (Nat.le_of_not_lt fun q => z ((nI_ltI hn hi).mpr q)))
theorem g_iincN {i j : Nat} (hd : dII M pc j 1 nx) (hx : lv[j]? = some (.int (nI i))) (ho : zok lv j = true) (k : zGo M nx (lv.set j (.int (nI (i + 1)))) rest X R h I P) : zGo M pc lv rest X R h I P :=
  g_iinc hd hx ho (by rw [nI_1]; exact k)
def zcs (x : Int32) (G : Nat → Prop) : List (Int32 × Nat) → Prop
  | [] => True
  | q :: r => (x = q.1 → G q.2) ∧ zcs x G r
theorem zcs_get {x : Int32} {G : Nat → Prop} : ∀ {l : List (Int32 × Nat)} {i : Nat} {q : Int32 × Nat}, zcs x G l → l[i]? = some q → x = q.1 → G q.2
  | [], i, q, _, h, _ => by simp at h
  | a :: r, 0, q, hz, h, e => by simp at h; subst h; exact hz.1 e
  | a :: r, i + 1, q, hz, h, e => by simp at h; exact zcs_get hz.2 h e
def dSW (M : zM) (pc : Nat) (l : List (Int32 × Nat)) (dflt : Nat) : Prop := ∃ (d : Int) (lo : Nat) (hi : Int) (offs : Array Int) (len : Nat), decode (z_cc M) pc = .ok (.tableswitch d lo hi offs, len) ∧ (pc : Int) + d = (dflt : Int) ∧ l.length = offs.size ∧ hi + 1 = (lo : Int) + offs.size ∧ (List.range offs.size).all (fun i => decide (l[i]? = some (nI (lo + i), ((pc : Int) + offs.getD i 0).toNat)) && decide (0 ≤ (pc : Int) + offs.getD i 0)) = true ∧ lo + offs.size < 2 ^ 31
theorem g_sw {x : Int32} {l : List (Int32 × Nat)} (hd : dSW M pc l tgt) (kin : zcs x (fun t => zGo M t lv rest X R h I P) l) (kout : (∀ q ∈ l, ¬ x = q.1) → zGo M tgt lv rest X R h I P) : zGo M pc lv (.int x :: rest) X R h I P := by
  intro p l e Rm s m args below meth cd D cI cZ N b Q C K H locs ls hR hl
  obtain ⟨d, lo, hi, offs, len, hd, ht, hlen, hhi, hall, hsm⟩ := hd
  have hall := fun i (hi : i < offs.size) => List.all_eq_true.mp hall i (List.mem_range.mpr hi)
  simp only [Bool.and_eq_true, decide_eq_true_eq] at hall
  by_cases ho : x.toInt < lo ∨ hi < x.toInt
  · refine lv_tableOut C.1 C.2.1 hd ho ht (kout (fun q hq e => ?_) p l e Rm s m args below meth cd D cI cZ N b Q C K H locs ls hR hl)
    obtain ⟨i, hi2⟩ := List.getElem?_of_mem hq
    have hil : i < offs.size := by rw [← hlen]; exact (List.getElem?_eq_some_iff.mp hi2).1
    have h1 := (hall i hil).1
    rw [hi2] at h1
    have h2 : q.1 = nI (lo + i) := by rw [Option.some.inj h1]
    rw [e, h2, nI_toInt (by omega)] at ho
    omega
  · have h1 : ¬ x.toInt < lo := fun z => ho (Or.inl z)
    have h2 : ¬ hi < x.toInt := fun z => ho (Or.inr z)
    have hil : (x.toInt - lo).toNat < offs.size := by omega
    have h3 := hall _ hil
    refine lv_tableIn (off := offs.getD (x.toInt - lo).toNat 0) C.1 C.2.1 hd h1 h2 ?_ (Int.toNat_of_nonneg h3.2).symm ((zcs_get kin h3.1 ?_) p l e Rm s m args below meth cd D cI cZ N b Q C K H locs ls hR hl)
    · rw [Array.getD_eq_getD_getElem?, Array.getElem?_eq_getElem hil]; rfl
    · apply Int32.toInt_inj.mp
      show x.toInt = (nI _).toInt
      rw [nI_toInt (by omega)]
      omega
theorem zce_obj {N : Nat} {cI cZ : ClassId} {k c n : Nat} : zce N cI cZ R h I k (c + 2, n) = .inr (c, (List.range n).map (fun j => zfv N (zt c j) (I k j) (R k j) h)) := rfl
theorem g_getf {k c j : Nat} {v : Value} (hd : dGF M pc c j nx) (hs : X[k]? = some (c + 2, zF c)) (hv : ∀ N b : Nat, zfv N (zt c j) (I k j) (R k j) h = zcv N b v) (kk : zGo M nx lv (v :: rest) X R h I P) : zGo M pc lv (.ref k :: rest) X R h I P := by
  intro p l e Rm s m args below meth cd D cI cZ N b Q C K H locs ls hR hl
  obtain ⟨idx, hd, hw, ⟨hc, hj⟩, rfl⟩ := hd
  refine va_get (D := D) (cl := zcl) (ci := c) (ref := (zT c j).1) (v := zcv N b v) C.1 C.2.1 C.2.2.2.2.2.1 (zin_ok c hc) C.2.2.2.2.1 C.2.2.2.2.2.2.2.2.1 hR.1 k (zw_at hs) (zcl_at c hc) j hj (C.2.2.2.2.2.1 _ hw) (fun _ z => z) ?_ hd (kk p l e Rm s m args below meth cd D cI cZ N b Q C K H locs ls hR hl)
  simp [hj, hv N b]
theorem g_gfi {k c j : Nat} (hd : dGF M pc c j nx) (hs : X[k]? = some (c + 2, zF c)) (ht : zt c j = .int) (kk : zGo M nx lv (.int (I k j) :: rest) X R h I P) : zGo M pc lv (.ref k :: rest) X R h I P := g_getf hd hs (fun N b => by rw [ht]; rfl) kk
theorem g_gfz {k c j : Nat} (hd : dGF M pc c j nx) (hs : X[k]? = some (c + 2, zF c)) (ht : zt c j = .boolean) (kk : zGo M nx lv (.int (I k j) :: rest) X R h I P) : zGo M pc lv (.ref k :: rest) X R h I P := g_getf hd hs (fun N b => by rw [ht]; rfl) kk
theorem g_gfl {k c j : Nat} (hd : dGF M pc c j nx) (hs : X[k]? = some (c + 2, zF c)) (ht : zt c j = .long) (kk : zGo M nx lv (.long h :: rest) X R h I P) : zGo M pc lv (.ref k :: rest) X R h I P := g_getf hd hs (fun N b => by rw [ht]; rfl) kk
def zisR : FieldType → Bool
  | .object _ => true
  | .array _ => true
  | _ => false
theorem g_gfr {k c j t : Nat} (hd : dGF M pc c j nx) (hs : X[k]? = some (c + 2, zF c)) (ht : zisR (zt c j) = true) (hr : R k j = some t) (kk : zGo M nx lv (.ref t :: rest) X R h I P) : zGo M pc lv (.ref k :: rest) X R h I P := g_getf hd hs (fun N b => by
  rw [hr]
  cases hz : zt c j with
  | object _ => rfl
  | array _ => rfl
  | _ => rw [hz] at ht; simp [zisR] at ht) kk
theorem g_putf {k c j : Nat} {v : Value} {R' : zMR} {h' : Int64} {I' : zMI} (hd : dPF M pc c j nx) (hs : X[k]? = some (c + 2, zF c)) (hf : (zT c j).2.2.2 = false ∨ ((zT c j).1 = (z_y M).cls ∧ (z_y M).name = "<init>"))
    (hv : ∀ N b : Nat, narrow (zt c j) (zcv N b v) = zcv N b v ∧ fits (zt c j) (zcv N b v) = true) (he : ∀ N b : Nat, zfv N (zt c j) (I' k j) (R' k j) h' = zcv N b v) (ho : ∀ N i, i < zF c → i ≠ j → zfv N (zt c i) (I' k i) (R' k i) h' = zfv N (zt c i) (I k i) (R k i) h)
    (ho2 : ∀ N cI cZ a sh, a ≠ k → X[a]? = some sh → zce N cI cZ R' h' I' a sh = zce N cI cZ R h I a sh) (kk : zGo M nx lv rest X R' h' I' P) : zGo M pc lv (v :: .ref k :: rest) X R h I P := by
  intro p l e Rm s m args below meth cd D cI cZ N b Q C K H locs ls hR hl
  obtain ⟨idx, hd, hw, ⟨hc, hj⟩, rfl⟩ := hd
  have hP := hR.1
  have hset : (zw N cI cZ X R h I).set k (N + k, .inr (c, ((List.range (zF c)).map (fun i => zfv N (zt c i) (I k i) (R k i) h)).set j (zcv N b v))) = zw N cI cZ X R' h' I' := by
    rw [zmap_set _ (fun i => zfv N (zt c i) (I' k i) (R' k i) h') _ (he N b) (ho N)]
    exact zw_set hs (ho2 N cI cZ)
  have hap := va_apart (own := (z_y M).cls) C.2.2.2.2.2.1 (zin_ok c hc) (zt c) (zty_ok c hc) (znm_ok c hc) C.2.2.2.2.2.2.2.2.1 (zcl_at c hc)
  obtain ⟨r, h1, cell, q1, q2, q3, q4⟩ := hP k _ (zw_at hs)
  have hr : r = (zR c, zT c, zF c) := Option.some.inj (h1.symm.trans (zcl_at c hc))
  subst hr
  obtain ⟨hS, hfc, kC, hkC, hkind⟩ := C.2.2.2.2.2.2.2.2.1.1 c _ (zcl_at c hc)
  obtain ⟨cf, kf, fi, f, hi, hsl⟩ := hS j hj
  have hlay := C.2.2.2.2.2.1 _ (zin_ok c hc _ (u_in_lay hj))
  have hst := (u_facts hfc hkC (u_lays C.2.2.2.2.2.1 (zin_ok c hc) hj) hi).1
  have fin : ∀ H' : Heap, H'[N + k]? = some (cell.setSlot f.slot (zcv N b v)) → H'.size = H.size → (∀ q, q ≠ N + k → H'[q]? = H[q]?) → W p l e Rm s m args below meth cd H' (locs ++ [⟨N + k, f.slot⟩]) (X.length - z_x0 M) (zsl X - z_s0 M) Q (F0 m (pc + 3) ls (rest.map (zcv N b))) := by
    intro H' e1 e2 e3
    rw [hsl] at e1
    refine kk p l e Rm s m args below meth cd D cI cZ N b Q C K H' _ ls ⟨?_, hR.2.1.put e2 e3 (Nat.le_add_right N k), e2.trans hR.2.2⟩ hl
    rw [← hset]
    exact hP.set (zw_D N cI cZ X R h I) (zw_at hs) ⟨_, zcl_at c hc, t_OB.to (V := updV (vp_V ((List.range (zF c)).map (fun i => zfv N (zt c i) (I k i) (R k i) h))) j (zcv N b v)) ⟨_, e1, q2, q3, t_set q4 hap hj _⟩ (fun i _ => vp_updV_set (by simpa using hj) _ i)⟩ e3
  unfold u_lay at hlay
  by_cases hfin : (zT c j).2.2.2 = false
  · rw [if_neg (by rw [hfin]; decide)] at hlay
    have h6 := u_store hfc hkC hkind hlay hi (zty_ok c hc j hj) (hv N b).1 (hv N b).2
    exact W.putK C.1 C.2.1 (f := f) ⟨C.2.2.2.2.1, C.2.2.2.2.2.1 _ hw, ⟨_, _, _, hi⟩, hst⟩ (by rw [q2]; exact h6) q1 q3 (by rw [hsl]; exact k2_hasslot (q4 j hj)) rfl rfl hd fin
  · have hfin2 : (zT c j).2.2.2 = true := by simpa using hfin
    obtain ⟨hdecl, hini⟩ := hf.resolve_left hfin
    rw [if_pos hfin2] at hlay
    have hcf : m.cls = cf := by
      obtain ⟨_, _, c', _, _, _, -, -, hf', -, -, -, hown2, -⟩ := Cond.laysFinal_spec hlay
      have e1 : c' = cf := by have := hi.symm.trans hf'; simp at this; exact this.1.symm
      rw [hdecl] at hown2
      rw [← e1]; exact Option.some.inj (C.2.2.2.2.1.symm.trans hown2)
    have h6 := u_fits hfc hkC hkind (Or.inr hlay) hi (zty_ok c hc j hj) (hv N b).1 (hv N b).2
    exact W.putFinK C.1 C.2.1 C.2.2.2.2.1 (C.2.2.2.2.2.1 _ hw) hi hst hcf (C.2.2.2.2.2.2.2.1 hini) (by rw [q2]; exact h6) q1 q3 (by rw [hsl]; exact k2_hasslot (q4 j hj)) rfl rfl hd fin
theorem g_pfi {k c j : Nat} {x : Int32} (hd : dPF M pc c j nx) (hs : X[k]? = some (c + 2, zF c)) (hf : (zT c j).2.2.2 = false) (ht : zt c j = .int) (kk : zGo M nx lv rest X R h (zs I k (upd (I k) j x)) P) : zGo M pc lv (.int x :: .ref k :: rest) X R h I P := by
  refine g_putf hd hs (Or.inl hf) (fun N b => by rw [ht]; exact ⟨rfl, rfl⟩) (fun N b => by rw [ht, zs_eq]; simp [upd, zfv, zcv]) (fun N i _ hi => by rw [zs_eq]; simp [upd, hi]) (fun N cI cZ a sh ha _ => zce_row N cI cZ R h I _ sh ha) kk
theorem g_pfz {k c j : Nat} {x : Int32} (hd : dPF M pc c j nx) (hs : X[k]? = some (c + 2, zF c)) (hf : (zT c j).2.2.2 = false) (ht : zt c j = .boolean) (hx : x = 0 ∨ x = 1) (kk : zGo M nx lv rest X R h (zs I k (upd (I k) j x)) P) : zGo M pc lv (.int x :: .ref k :: rest) X R h I P := by
  refine g_putf hd hs (Or.inl hf) (fun N b => by rw [ht]; rcases hx with rfl | rfl <;> exact ⟨rfl, rfl⟩) (fun N b => by rw [ht, zs_eq]; simp [upd, zfv, zcv]) (fun N i _ hi => by rw [zs_eq]; simp [upd, hi]) (fun N cI cZ a sh ha _ => zce_row N cI cZ R h I _ sh ha) kk
theorem g_pfr {k c j t : Nat} (hd : dPF M pc c j nx) (hs : X[k]? = some (c + 2, zF c)) (hf : (zT c j).2.2.2 = false ∨ ((zT c j).1 = (z_y M).cls ∧ (z_y M).name = "<init>")) (ht : zisR (zt c j) = true) (kk : zGo M nx lv rest X (zrs R k j (some t)) h I P) : zGo M pc lv (.ref t :: .ref k :: rest) X R h I P := by
  refine g_putf hd hs hf (fun N b => ?_) (fun N b => ?_) (fun N i _ hi => by simp [zrs, hi]) (fun N cI cZ a sh ha _ => by simp only [zce, zrs, ha, false_and, if_false]) kk
  · cases hz : zt c j with
    | object _ => exact ⟨rfl, rfl⟩
    | array _ => exact ⟨rfl, rfl⟩
    | _ => rw [hz] at ht; simp [zisR] at ht
  · cases hz : zt c j with
    | object _ => simp [zrs, zfv, zcv, va_rf]
    | array _ => simp [zrs, zfv, zcv, va_rf]
    | _ => rw [hz] at ht; simp [zisR] at ht
theorem zt_long : ∀ c j, zt c j = .long → c = 7 := by
  intro c j hz
  match c with
  | 0 | 1 | 2 | 3 | 4 | 5 | 6 => exfalso; revert hz; simp only [zt]; first | (unfold tyX0; split <;> simp) | (unfold tyX1; split <;> simp) | (unfold tyX2; split <;> simp) | (unfold tyX3; split <;> simp) | (unfold tyX4; split <;> simp) | (unfold tyX5; split <;> simp) | (unfold tyX6; split <;> simp)
  | 7 => rfl
  | n + 8 => simp [zt] at hz
theorem zt_long7 : ∀ j, j < 45 → j ≠ 44 → zt 7 j ≠ .long := by decide +kernel
theorem g_pfl {k : Nat} {x : Int64} (hd : dPF M pc 7 44 nx) (hs : X[k]? = some (7 + 2, zF 7)) (hu : ∀ a sh, a ≠ k → X[a]? = some sh → sh.1 ≠ 9) (kk : zGo M nx lv rest X R x I P) : zGo M pc lv (.long x :: .ref k :: rest) X R h I P := by
  have hfv : ∀ (N : Nat) (t : FieldType) (i : Int32) (r : Option Nat), t ≠ .long → zfv N t i r x = zfv N t i r h := fun N t i r ht => by cases t <;> first | rfl | exact absurd rfl ht
  refine g_putf hd hs (Or.inl rfl) (fun N b => ⟨rfl, rfl⟩) (fun N b => rfl) (fun N i h1 h2 => hfv N _ _ _ (zt_long7 i h1 h2)) (fun N cI cZ a sh ha hx => ?_) kk
  obtain ⟨q, n⟩ := sh
  have h9 := hu a _ ha hx
  match q, h9 with
  | 0, _ => rfl
  | 1, _ => rfl
  | c + 2, h9 =>
    show Sum.inr _ = Sum.inr _
    congr 2
    apply List.map_congr_left
    intro j _
    exact hfv N _ _ _ (fun z => h9 (by rw [zt_long c j z]))
theorem zr_n {n : Nat} {i : Int32} (hi : vp_in i n) : i.toNatClampNeg < n := Nat.not_le.mp fun q => hi (Or.inr q)
theorem g_iald {k n : Nat} {i : Int32} (hd : dO M pc .iaload nx) (hs : X[k]? = some (0, n)) (hi : vp_in i n) (kk : zGo M nx lv (.int (I k i.toNatClampNeg) :: rest) X R h I P) : zGo M pc lv (.int i :: .ref k :: rest) X R h I P := by
  intro p l e Rm s m args below meth cd D cI cZ N b Q C K H locs ls hR hl
  obtain ⟨hd, rfl⟩ := hd
  exact va_iald C.1 C.2.1 C.2.2.2.2.2.2.2.2.1 hR.1 k 0 (zw_at hs) rfl hi hd (kk p l e Rm s m args below meth cd D cI cZ N b Q C K H locs ls hR hl)
theorem g_zald {k n : Nat} {i : Int32} (hd : dO M pc .baload nx) (hs : X[k]? = some (1, n)) (hi : vp_in i n) (kk : zGo M nx lv (.int (I k i.toNatClampNeg) :: rest) X R h I P) : zGo M pc lv (.int i :: .ref k :: rest) X R h I P := by
  intro p l e Rm s m args below meth cd D cI cZ N b Q C K H locs ls hR hl
  obtain ⟨hd, rfl⟩ := hd
  exact va_zald C.1 C.2.1 C.2.2.2.2.2.2.2.2.1 hR.1 k 1 (zw_at hs) rfl hi hd (kk p l e Rm s m args below meth cd D cI cZ N b Q C K H locs ls hR hl)
theorem g_ialdN {k n i : Nat} (hd : dO M pc .iaload nx) (hs : X[k]? = some (0, n)) (hi : i < n) (hn : n < 2 ^ 31) (kk : zGo M nx lv (.int (I k i) :: rest) X R h I P) : zGo M pc lv (.int (nI i) :: .ref k :: rest) X R h I P :=
  g_iald hd hs (vp_in_nI hi hn) (by rw [nI_clamp (Nat.lt_trans hi hn)]; exact kk)
theorem g_zaldN {k n i : Nat} (hd : dO M pc .baload nx) (hs : X[k]? = some (1, n)) (hi : i < n) (hn : n < 2 ^ 31) (kk : zGo M nx lv (.int (I k i) :: rest) X R h I P) : zGo M pc lv (.int (nI i) :: .ref k :: rest) X R h I P :=
  g_zald hd hs (vp_in_nI hi hn) (by rw [nI_clamp (Nat.lt_trans hi hn)]; exact kk)
theorem g_iast {k n : Nat} {i x : Int32} (hd : dO M pc .iastore nx) (hs : X[k]? = some (0, n)) (hi : vp_in i n) (kk : zGo M nx lv rest X R h (zs I k (upd (I k) i.toNatClampNeg x)) P) : zGo M pc lv (.int x :: .int i :: .ref k :: rest) X R h I P := by
  intro p l e Rm s m args below meth cd D cI cZ N b Q C K H locs ls hR hl
  obtain ⟨hd, rfl⟩ := hd
  have hP := hR.1
  have ha := zw_at (N := N) (cI := cI) (cZ := cZ) (R := R) (h := h) (I := I) hs
  refine W.iast C.1 C.2.1 (hP k _ ha) ((C.2.2.2.2.2.2.2.2.1.2 0 _ rfl).1 n (fun j => .int (I k j))) (fun q => by cases q) (by show ¬ (i < 0 ∨ (arrV _ _ _).slots.size ≤ _); rw [arrV_size]; exact hi) rfl rfl hd fun H1 e1 z oq => ?_
  refine kk p l e Rm s m args below meth cd D cI cZ N b Q C K H1 _ ls ⟨?_, hR.2.1.put z oq (Nat.le_add_right N k), z.trans hR.2.2⟩ hl
  rw [← zw_set (R := R) (h := h) (I := I) hs (fun a sh' ha _ => zce_row N cI cZ R h I _ sh' ha)]
  refine hP.set (zw_D ..) ha ?_ oq
  show H1[N + k]? = some (vp_cell cI (n, .inl (zs I k (upd (I k) i.toNatClampNeg x) k)))
  rw [e1, zs_eq]
  show some ((vp_cell cI (n, .inl (I k))).setSlot _ _) = _
  rw [vp_cell_i, vp_cell_i, arrV_store]
  congr 2
  funext q
  by_cases hq : q = i.toNatClampNeg
  · subst hq
    simp [updV, upd]
  · simp [updV, upd, hq]
theorem g_zast {k n : Nat} {i x : Int32} (hd : dO M pc .bastore nx) (hs : X[k]? = some (1, n)) (hi : vp_in i n) (hx : x = 0 ∨ x = 1) (kk : zGo M nx lv rest X R h (zs I k (upd (I k) i.toNatClampNeg x)) P) : zGo M pc lv (.int x :: .int i :: .ref k :: rest) X R h I P := by
  intro p l e Rm s m args below meth cd D cI cZ N b Q C K H locs ls hR hl
  obtain ⟨hd, rfl⟩ := hd
  have hP := hR.1
  have ha := zw_at (N := N) (cI := cI) (cZ := cZ) (R := R) (h := h) (I := I) hs
  have hnar : narrow .boolean (.int x) = .int x := by rcases hx with rfl | rfl <;> rfl
  refine W.zast C.1 C.2.1 (hP k _ ha) ((C.2.2.2.2.2.2.2.2.1.2 1 _ rfl).1 n (fun j => .int (I k j))) (fun q => by cases q) (by show ¬ (i < 0 ∨ (arrV _ _ _).slots.size ≤ _); rw [arrV_size]; exact hi) rfl rfl hd fun H1 e1 z oq => ?_
  refine kk p l e Rm s m args below meth cd D cI cZ N b Q C K H1 _ ls ⟨?_, hR.2.1.put z oq (Nat.le_add_right N k), z.trans hR.2.2⟩ hl
  rw [← zw_set (R := R) (h := h) (I := I) hs (fun a sh' ha _ => zce_row N cI cZ R h I _ sh' ha)]
  refine hP.set (zw_D ..) ha ?_ oq
  show H1[N + k]? = some (vp_cell cZ (n, .inl (zs I k (upd (I k) i.toNatClampNeg x) k)))
  rw [e1, zs_eq, hnar]
  show some ((vp_cell cZ (n, .inl (I k))).setSlot _ _) = _
  rw [vp_cell_i, vp_cell_i, arrV_store]
  congr 2
  funext q
  by_cases hq : q = i.toNatClampNeg
  · subst hq
    simp [updV, upd]
  · simp [updV, upd, hq]
theorem g_iastN {k n i : Nat} {x : Int32} (hd : dO M pc .iastore nx) (hs : X[k]? = some (0, n)) (hi : i < n) (hn : n < 2 ^ 31) (kk : zGo M nx lv rest X R h (zs I k (upd (I k) i x)) P) : zGo M pc lv (.int x :: .int (nI i) :: .ref k :: rest) X R h I P :=
  g_iast hd hs (vp_in_nI hi hn) (by rw [nI_clamp (Nat.lt_trans hi hn)]; exact kk)
theorem g_zastN {k n i : Nat} {x : Int32} (hd : dO M pc .bastore nx) (hs : X[k]? = some (1, n)) (hi : i < n) (hn : n < 2 ^ 31) (hx : x = 0 ∨ x = 1) (kk : zGo M nx lv rest X R h (zs I k (upd (I k) i x)) P) : zGo M pc lv (.int x :: .int (nI i) :: .ref k :: rest) X R h I P :=
  g_zast hd hs (vp_in_nI hi hn) hx (by rw [nI_clamp (Nat.lt_trans hi hn)]; exact kk)
theorem g_alen {k n : Nat} (hd : dO M pc .arraylength nx) (hs : X[k]? = some (0, n)) (kk : zGo M nx lv (.int (nI n) :: rest) X R h I P) : zGo M pc lv (.ref k :: rest) X R h I P := by
  intro p l e Rm s m args below meth cd D cI cZ N b Q C K H locs ls hR hl
  obtain ⟨hd, rfl⟩ := hd
  exact va_alen (ty := .int) C.1 C.2.1 C.2.2.2.2.2.2.2.2.1 hR.1 k 0 (zw_at hs) rfl rfl hd (kk p l e Rm s m args below meth cd D cI cZ N b Q C K H locs ls hR hl)
theorem g_iret {x : Int32} (hd : dO M pc .ireturn nx) (ht : z_ret M = some .int) (hp : P (some (.int x)) X R h I) : zGo M pc lv [.int x] X R h I P := by
  intro p l e Rm s m args below meth cd D cI cZ N b Q C K H locs ls hR hl
  exact K (some (.int x)) X R h I H locs ls pc hp hR ⟨hd.1, Or.inl ht⟩
theorem g_zret {x : Int32} (hd : dO M pc .ireturn nx) (ht : z_ret M = some .boolean) (hx : x = 0 ∨ x = 1) (hp : P (some (.int x)) X R h I) : zGo M pc lv [.int x] X R h I P := by
  intro p l e Rm s m args below meth cd D cI cZ N b Q C K H locs ls hR hl
  exact K (some (.int x)) X R h I H locs ls pc hp hR ⟨hd.1, Or.inr ⟨ht, hx⟩⟩
theorem g_lret {x : Int64} (hd : dO M pc .lreturn nx) (ht : z_ret M = some .long) (hp : P (some (.long x)) X R h I) : zGo M pc lv [.long x] X R h I P := by
  intro p l e Rm s m args below meth cd D cI cZ N b Q C K H locs ls hR hl
  exact K (some (.long x)) X R h I H locs ls pc hp hR ⟨hd.1, ht⟩
theorem g_vret (hd : dO M pc .return_ nx) (ht : z_ret M = none) (hp : P none X R h I) : zGo M pc lv [] X R h I P := by
  intro p l e Rm s m args below meth cd D cI cZ N b Q C K H locs ls hR hl
  exact K none X R h I H locs ls pc hp hR ⟨hd.1, ht⟩
theorem g_post {P' : zPost} {st : List Value} (k : zGo M pc lv st X R h I P') (hp : ∀ v X' R' h' I', P' v X' R' h' I' → P v X' R' h' I') : zGo M pc lv st X R h I P := by
  intro p l e Rm s m args below meth cd D cI cZ N b Q C K H locs ls hR hl
  exact k p l e Rm s m args below meth cd D cI cZ N b Q C (fun v X' R' h' I' H' locs' ls' pc' hq => K v X' R' h' I' H' locs' ls' pc' (hp _ _ _ _ _ hq)) H locs ls hR hl
end GR
end
section
section GC
variable {M : zM} {pc nx tgt : Nat} {lv rest : List Value} {X : List zSh} {R : zMR} {h : Int64} {I : zMI} {P : zPost}
theorem zEv_of {av lv0 : List Value} (hy : plainName (z_y M).cls = true) (hsc : z_sc M = none) (hx : X.length = z_x0 M) (hs : zsl X = z_s0 M) (hlv : ∀ N b, zlva N b 0 lv0 = lv_args 0 (av.map (zcv N b))) (hlen : ∀ N b, (lg_sl (av.map (zcv N b))).length ≤ z_nL M)
    (hP : ∀ v X' R' h' I', P v X' R' h' I' → X'.length = X.length + z_mc M ∧ zsl X' = zsl X + z_ms M) (k : zGo M 0 lv0 [] X R h I P) : zEv M X R h I av P := by
  intro l D cI cZ N b
  refine Met.ofW (cc := z_cc M) (maxL := z_nL M) (ret := z_ret M) hy rfl ?_
  intro p e s m args below meth cd s₁ B hml hv
  obtain ⟨rfl, hsz, hP0, hK, hNe⟩ := hv
  have hts := atoms_spec (ws := Cond.code (z_y M) (z_cc M) (z_nL M) (z_ret M) :: zG) B.pre
  have hC : zCx M p (headSpec (Cond.code (z_y M) (z_cc M) (z_nL M) (z_ret M) :: zG) (zRm M)).room s m (av.map (zcv N b)).toArray meth cd D cI cZ N b :=
    ⟨B.exec, B.bytes, hml, B.returns, findClass_of_methodNamed B.named, fun w hw => hts w (List.mem_cons_of_mem _ hw), B.notSynchronized, fun z => ((name_of_methodNamed B.named B.method).1).trans z, hK, hNe, ⟨Nat.le_refl _, Nat.le_refl _, Nat.le_refl _, Nat.le_refl _⟩, by rw [hsz]; exact Nat.le_add_right _ _, by rw [hsc]; trivial⟩
  have hlocks := B.notSynchronized
  rw [lg_entry_eq]
  have hl := lv_entry (av.map (zcv N b)) (n := z_nL M) (hlen N b)
  rw [← hlv N b] at hl
  have hW := k p l e _ s m _ below meth cd D cI cZ N b (MQ below (fun _ st oc t => (∃ (v : Option Value) (X' : List zSh) (R' : zMR) (h' : Int64) (I' : zMI), oc = .returned (v.map (zcv N b)) ∧ P v X' R' h' I' ∧ va_P D zcl (zw N cI cZ X' R' h' I') t.heap ∧ t.heap.size = N + X'.length ∧ X'.length = X.length + z_mc M ∧ zsl X' = zsl X + z_ms M) ∧ va_F (fun q : Nat => N ≤ q) st t) (av.map (zcv N b)).toArray s (z_mc M) (z_ms M) (fun q : Nat => N ≤ q)) hC ?_ s.heap [] _ ⟨hP0, va_S.rf, hsz⟩ hl
  · rw [show X.length - z_x0 M = 0 by omega, show zsl X - z_s0 M = 0 by omega] at hW
    exact hW
  · intro v X' R' h' I' H' locs' ls' pc' hp hR hret
    obtain ⟨e1, e2⟩ := hP v X' R' h' I' hp
    have c1 : X'.length - z_x0 M = z_mc M := by omega
    have c2 : zsl X' - z_s0 M = z_ms M := by omega
    rw [c1, c2]
    match v, hret, hp with
    | none, ⟨hd, ht⟩, hp =>
      exact W.vret B.exec B.bytes (B.returns.trans ht) (fun t hth _ => ⟨⟨none, X', R', h', I', rfl, hp, by rw [hth]; exact hR.1, by rw [hth]; exact hR.2.2, e1, e2⟩, hR.2.1.F hth⟩) hR.2.1.2.2 hd
    | some (.int x), ⟨hd, ht⟩, hp =>
      rcases ht with ht | ⟨ht, hx1⟩
      · exact W.iret B.exec B.bytes (B.returns.trans ht) (fun t hth _ => ⟨⟨some (.int x), X', R', h', I', rfl, hp, by rw [hth]; exact hR.1, by rw [hth]; exact hR.2.2, e1, e2⟩, hR.2.1.F hth⟩) hR.2.1.2.2 hd
      · exact W.zret B.exec B.bytes (B.returns.trans ht) (by rcases hx1 with rfl | rfl <;> rfl) (fun t hth _ => ⟨⟨some (.int x), X', R', h', I', rfl, hp, by rw [hth]; exact hR.1, by rw [hth]; exact hR.2.2, e1, e2⟩, hR.2.1.F hth⟩) hR.2.1.2.2 hd
    | some (.long x), ⟨hd, ht⟩, hp =>
      exact W.lret B.exec B.bytes (B.returns.trans ht) (fun t hth _ => ⟨⟨some (.long x), X', R', h', I', rfl, hp, by rw [hth]; exact hR.1, by rw [hth]; exact hR.2.2, e1, e2⟩, hR.2.1.F hth⟩) hR.2.1.2.2 hd
    | some (.null), hret, _ => exact hret.elim
    | some (.ref _), hret, _ => exact hret.elim
    | some (.float _), hret, _ => exact hret.elim
    | some (.double _), hret, _ => exact hret.elim
    | some (.retAddr _), hret, _ => exact hret.elim
/-- behind a call -/
theorem zback {M' : zM} {P' : zPost} {st0 : List Value} {p : Program} {l : Launch} {e : Env} {Rm : Room} {s : State} {m : MethodId} {args : Array Value} {below : List Frame} {meth : Method} {cd : Code} {D : va_G} {cI cZ : ClassId} {N b : Nat} {Q : State → Prop} {H : Heap} {locs : List Loc} {ls : Array Slot}
    (C : zCx M p Rm s m args meth cd D cI cZ N b)
    (K : ∀ (v : Option Value) (X' : List zSh) (R' : zMR) (h' : Int64) (I' : zMI) (H' : Heap) (locs' : List Loc) (ls' : Array Slot) (pc' : Nat), P v X' R' h' I' → zRp D cI cZ N X' R' h' I' s H' locs' → zRet M pc' v →
      W p l e Rm s m args below meth cd H' locs' (X'.length - z_x0 M) (zsl X' - z_s0 M) Q (F0 m pc' ls' (v.toList.map (zcv N b))))
    (hR : zRp D cI cZ N X R h I s H locs) (hl : lv_has ls (z_nL M) (zlva N b 0 lv)) (hc : z_x0 M ≤ X.length ∧ z_s0 M ≤ zsl X)
    (kk : ∀ v X' R' h' I', P' v X' R' h' I' → zGo M (pc + 3) lv (v.toList ++ rest) X' R' h' I' P)
    (hr : va_Run p l e Rm s m args below meth cd H locs (X.length - z_x0 M) (zsl X - z_s0 M) (z_mc M') (z_ms M') (F0 m pc ls st0) (rest.map (zcv N b)) (fun st oc t => (∃ (v : Option Value) (X' : List zSh) (R' : zMR) (h' : Int64) (I' : zMI), oc = .returned (v.map (zcv N b)) ∧ P' v X' R' h' I' ∧ va_P D zcl (zw N cI cZ X' R' h' I') t.heap ∧ t.heap.size = N + X'.length ∧ X'.length = X.length + z_mc M' ∧ zsl X' = zsl X + z_ms M') ∧ va_F (fun q : Nat => N ≤ q) st t) (fun q : Nat => N ≤ q)) :
    W p l e Rm s m args below meth cd H locs (X.length - z_x0 M) (zsl X - z_s0 M) Q (F0 m pc ls st0) := by
  intro T hT XX
  obtain ⟨v, st₀, t, T', L, h0, X', hL, e1, e2, ⟨⟨v', X1, R1, h1, I1, hv, hp, hP1, hz, hl1, hl2⟩, hF⟩, st⟩ := hr T hT XX
  have hv2 : v = v'.map (zcv N b) := by cases hv; rfl
  subst hv2
  have hz1 : s.heap.size ≤ T'.heap.size := by rw [e1, hz, hl1]; have := hR.2.1.1; have := hR.2.2; omega
  have key := kk v' X1 R1 h1 I1 hp p l e Rm s m args below meth cd D cI cZ N b Q C K T'.heap (locs ++ L) ls ⟨by rw [e1]; exact hP1, ⟨hz1, fun q h1 h2 => by rw [e1, hF.2 q (by rw [h0]; exact Nat.lt_of_lt_of_le h1 hR.2.1.1) h2, h0]; exact hR.2.1.2.1 q h1 h2, fun q hq => by
      rcases List.mem_append.mp hq with z | z
      · exact hR.2.1.2.2 q z
      · exact hL q z⟩, by rw [e1]; exact hz⟩ hl
  have c1 : X.length - z_x0 M + z_mc M' = X1.length - z_x0 M := by omega
  have c2 : zsl X - z_s0 M + z_ms M' = zsl X1 - z_s0 M := by omega
  rw [c1, c2] at X'
  obtain ⟨t2, a1, b1⟩ := key T' rfl X'
  refine ⟨t2, st t2 ?_, b1⟩
  have hst : (v'.map (zcv N b)).toList ++ rest.map (zcv N b) = (v'.toList ++ rest).map (zcv N b) := by cases v' <;> rfl
  show Steps p.tables e below (T'.setTop { method := m, pc := pc + 3, locals := ls, stack := (v'.map (zcv N b)).toList ++ rest.map (zcv N b), locked := none }) t2
  rw [hst]
  exact a1
/-- what a call needs of a method itself -/
def zOkB (M' : zM) (n : Nat) : Prop := Cond.code (z_y M') (z_cc M') (z_nL M') (z_ret M') ∈ zG ∧ Cond.initialized (z_y M').cls ∈ zG ∧ ((z_y M').cls ≠ "java/lang/invoke/MethodHandle" ∧ (z_y M').cls ≠ "java/lang/invoke/VarHandle" ∧ (parseMethodDescriptor (z_y M').desc).map (fun d => d.parameters.length) = some n) ∧ z_nL M' ≤ 17
def zOkV (M' : zM) (c n : Nat) : Prop := zOkB M' n ∧ Cond.instanceMethod (z_y M') ∈ zG ∧ Cond.selects (z_y M').cls (z_y M') (z_y M') ∈ zG ∧ (z_y M').cls = zR c ∧ c < 8
def zOkS (M' : zM) (n : Nat) : Prop := zOkB M' n ∧ Cond.static (z_y M') ∈ zG
def zOkI (M' : zM) (n : Nat) : Prop := zOkB M' n ∧ Cond.instanceMethod (z_y M') ∈ zG ∧ (z_y M').name = "<init>" ∧ z_ret M' = none
/-- a call's own: levels; a place where nothing is made -/
def zCal (M M' : zM) : Prop := z_lv M' < z_lv M ∧ z_x0 M = 84 ∧ z_s0 M = 5746 ∧ z_mc M' = 0 ∧ z_ms M' = 0
def dCV (M : zM) (pc : Nat) (M' : zM) (nx : Nat) : Prop := ∃ idx : Nat, decode (z_cc M) pc = .ok (.invokevirtual idx, 3) ∧ Cond.methodLink (z_y M).cls idx (z_y M') ∈ zG ∧ z_lv M' < z_lv M ∧ pc + 3 = nx
def dCS (M : zM) (pc : Nat) (M' : zM) (nx : Nat) : Prop := (∃ idx : Nat, decode (z_cc M) pc = .ok (.invokestatic idx, 3) ∧ Cond.methodLink (z_y M).cls idx (z_y M') ∈ zG ∧ z_lv M' < z_lv M ∧ pc + 3 = nx) ∨ (∃ (idx : Nat) (host : String), decode (z_cc M) pc = .ok (.invokestatic idx, 3) ∧ Cond.methodLinkNest (z_y M).cls idx (z_y M') host ∈ zNl ∧ z_lv M' < z_lv M ∧ pc + 3 = nx)
def dCI (M : zM) (pc : Nat) (M' : zM) (nx : Nat) : Prop := (∃ idx : Nat, decode (z_cc M) pc = .ok (.invokespecial idx, 3) ∧ Cond.methodLink (z_y M).cls idx (z_y M') ∈ zG ∧ z_lv M' < z_lv M ∧ pc + 3 = nx) ∨ (∃ (idx : Nat) (host : String), decode (z_cc M) pc = .ok (.invokespecial idx, 3) ∧ Cond.methodLinkNest (z_y M).cls idx (z_y M') host ∈ zNl ∧ z_lv M' < z_lv M ∧ pc + 3 = nx)
theorem zblind {l : List Value} {N k : Nat} {D : va_G} {cI cZ : ClassId} {ws : va_W} : FrameBlind (va_Pc l (fun U => U.heap.size = N + k ∧ va_P D zcl ws U.heap ∧ va_K D zcl (zty cI cZ) U ∧ zNe U)) := fun a U g mk q => by
  obtain ⟨q0, q1, qP, qK, qN⟩ := q
  exact ⟨q0, q1, qP, va_K.moved (u := U) (U := U.calling g mk a) (Vm.Alike.refl U.vm) qK, zNe.same (s := U) (U := U.calling g mk a) rfl qN⟩
theorem zroomR {M M' : zM} {Rm : Room} (h1 : z_lv M' < z_lv M) (h2 : z_lv M ≤ Rm.frames ∧ 36 * z_lv M ≤ Rm.locals ∧ z_mc M ≤ Rm.cells ∧ z_ms M ≤ Rm.slots) (h3 : z_nL M' ≤ 17) : (zRm M').frames + 1 ≤ Rm.frames ∧ 8 + (z_nL M' + 11) + (zRm M').locals ≤ Rm.locals := by
  simp only [zRm]
  omega
theorem zstr {N b : Nat} {rest : List Value} (h : (rest.map fun v => v.category).sum ≤ 8) : ((rest.map (zcv N b)).map fun v => v.category).sum ≤ 8 := by
  have e : (rest.map (zcv N b)).map (fun v => v.category) = rest.map (fun v => v.category) := by
    rw [List.map_map]
    apply List.map_congr_left
    intro v _
    exact zcv_cat N b v
  rw [e]; exact h
theorem g_callV {M' : zM} {n c k : Nat} {av st : List Value} {P' : zPost} (hd : dCV M pc M' nx) (hok : zOkV M' c n) (hs : X[k]? = some (c + 2, zF c)) (hn : av.length = n) (hc : (z_x0 M ≤ X.length ∧ z_s0 M ≤ zsl X) ∧ X.length - z_x0 M + z_mc M' ≤ z_mc M ∧ zsl X - z_s0 M + z_ms M' ≤ z_ms M) (hr : (rest.map fun v => v.category).sum ≤ 8) (hst : st = av.reverse ++ .ref k :: rest) (hE : zEv M' X R h I (.ref k :: av) P')
    (kk : ∀ v X' R' h' I', P' v X' R' h' I' → zGo M nx lv (v.toList ++ rest) X' R' h' I' P) : zGo M pc lv st X R h I P := by
  intro p l e Rm s m args below meth cd D cI cZ N b Q C K H locs ls hR hl
  subst hst
  obtain ⟨idx, hd, hlk, hlv, rfl⟩ := hd
  obtain ⟨⟨w1, w2, w3, w4⟩, w5, w6, w7, w8⟩ := hok
  have hts := C.2.2.2.2.2.1
  refine zback (M' := M') (P' := P') C K hR hl hc.1 kk ?_
  refine va_runV (C := zR c) (As := av.map (zcv N b)) (b := N + k) (n := n) (rest := rest.map (zcv N b)) (index := idx) (Ts := zG) (own := (z_y M).cls) (nL := z_nL M) (cc := z_cc M) (bytes := z_cc M') (maxL := z_nL M') (ret := z_ret M') (rm := zRm M') ⟨C.1, C.2.1, C.2.2.1, C.2.2.2.2.1, hts⟩ (hE l D cI cZ N b)
    ⟨callB_of n hts (zgood_tbl w1) rfl rfl rfl (hts _ w2) (hts _ hlk) w3 (zroomR hlv C.2.2.2.2.2.2.2.2.2.2.1 w4), hts _ w5, by rw [← w7]; exact hts _ w6⟩
    ⟨zblind, va_recv C.2.2.2.2.2.2.2.2.1 hR.1 (zcl_at c w8) (zw_at hs), fun U hU hW => ⟨rfl, by rw [hU]; exact hR.2.2, by rw [hU]; exact hR.1, va_K.moved hW.alike C.2.2.2.2.2.2.2.2.1, zNe.warm hW C.2.2.2.2.2.2.2.2.2.1⟩⟩ rfl (by simpa using hn) hl.1 ?_ (lv_room (zstr hr)) hd ⟨Nat.le_trans hc.2.1 C.2.2.2.2.2.2.2.2.2.2.1.2.2.1, Nat.le_trans hc.2.2 C.2.2.2.2.2.2.2.2.2.2.1.2.2.2⟩
  simp [zcv]
theorem g_callS {M' : zM} {n : Nat} {av st : List Value} {P' : zPost} (hd : dCS M pc M' nx) (hok : zOkS M' n) (hn : av.length = n) (hc : (z_x0 M ≤ X.length ∧ z_s0 M ≤ zsl X) ∧ X.length - z_x0 M + z_mc M' ≤ z_mc M ∧ zsl X - z_s0 M + z_ms M' ≤ z_ms M) (hr : (rest.map fun v => v.category).sum ≤ 8) (hst : st = av.reverse ++ rest) (hE : zEv M' X R h I av P')
    (kk : ∀ v X' R' h' I', P' v X' R' h' I' → zGo M nx lv (v.toList ++ rest) X' R' h' I' P) : zGo M pc lv st X R h I P := by
  intro p l e Rm s m args below meth cd D cI cZ N b Q C K H locs ls hR hl
  subst hst
  obtain ⟨⟨w1, w2, w3, w4⟩, w5⟩ := hok
  have hts := C.2.2.2.2.2.1
  have hpre : PreS s H (va_Pc (av.map (zcv N b)) (fun U => U.heap.size = N + X.length ∧ va_P D zcl (zw N cI cZ X R h I) U.heap ∧ va_K D zcl (zty cI cZ) U ∧ zNe U)) (av.map (zcv N b)) := ⟨zblind, fun U hU hW => ⟨rfl, by rw [hU]; exact hR.2.2, by rw [hU]; exact hR.1, va_K.moved hW.alike C.2.2.2.2.2.2.2.2.1, zNe.warm hW C.2.2.2.2.2.2.2.2.2.1⟩⟩
  have hfit : X.length - z_x0 M + z_mc M' ≤ Rm.cells ∧ zsl X - z_s0 M + z_ms M' ≤ Rm.slots := ⟨Nat.le_trans hc.2.1 C.2.2.2.2.2.2.2.2.2.2.1.2.2.1, Nat.le_trans hc.2.2 C.2.2.2.2.2.2.2.2.2.2.1.2.2.2⟩
  rcases hd with ⟨idx, hd, hlk, hlv, rfl⟩ | ⟨idx, host, hd, hlk, hlv, rfl⟩
  · refine zback (M' := M') (P' := P') C K hR hl hc.1 kk ?_
    refine va_runS (As := av.map (zcv N b)) (n := n) (rest := rest.map (zcv N b)) (index := idx) (Ts := zG) (own := (z_y M).cls) (nL := z_nL M) (cc := z_cc M) (bytes := z_cc M') (maxL := z_nL M') (ret := z_ret M') (rm := zRm M') ⟨C.1, C.2.1, C.2.2.1, C.2.2.2.2.1, hts⟩ (hE l D cI cZ N b)
      ⟨callB_of n hts (zgood_tbl w1) rfl rfl rfl (hts _ w2) (hts _ hlk) w3 (zroomR hlv C.2.2.2.2.2.2.2.2.2.2.1 w4), hts _ w5⟩ hpre rfl (by simpa using hn) hl.1 ?_ (lv_room (zstr hr)) hd hfit
    simp
  · refine zback (M' := M') (P' := P') C K hR hl hc.1 kk ?_
    refine va_runSN (As := av.map (zcv N b)) (n := n) (rest := rest.map (zcv N b)) (index := idx) (host := host) (Ts := zG) (own := (z_y M).cls) (nL := z_nL M) (cc := z_cc M) (bytes := z_cc M') (maxL := z_nL M') (ret := z_ret M') (rm := zRm M') ⟨C.1, C.2.1, C.2.2.1, C.2.2.2.2.1, hts⟩ (hE l D cI cZ N b)
      ⟨va_cnB n hts (zgood_tbl w1) rfl rfl rfl (C.2.2.2.2.2.2.2.2.2.1 _ hlk) (hts _ w2) w3 (zroomR hlv C.2.2.2.2.2.2.2.2.2.2.1 w4), hts _ w5, trivial⟩ hpre rfl (by simpa using hn) hl.1 ?_ (lv_room (zstr hr)) hd hfit
    simp
theorem g_callI {M' : zM} {n k : Nat} {av st : List Value} {P' : zPost} (hd : dCI M pc M' nx) (hok : zOkI M' n) (hn : av.length = n) (hc : (z_x0 M ≤ X.length ∧ z_s0 M ≤ zsl X) ∧ X.length - z_x0 M + z_mc M' ≤ z_mc M ∧ zsl X - z_s0 M + z_ms M' ≤ z_ms M) (hr : (rest.map fun v => v.category).sum ≤ 8) (hst : st = av.reverse ++ .ref k :: rest) (hE : zEv M' X R h I (.ref k :: av) P')
    (kk : ∀ v X' R' h' I', P' v X' R' h' I' → zGo M nx lv (v.toList ++ rest) X' R' h' I' P) : zGo M pc lv st X R h I P := by
  intro p l e Rm s m args below meth cd D cI cZ N b Q C K H locs ls hR hl
  subst hst
  obtain ⟨⟨w1, w2, w3, w4⟩, w5, w6, w7⟩ := hok
  have hts := C.2.2.2.2.2.1
  have hpre : PreS s H (va_Pc ((Value.ref k :: av).map (zcv N b)) (fun U => U.heap.size = N + X.length ∧ va_P D zcl (zw N cI cZ X R h I) U.heap ∧ va_K D zcl (zty cI cZ) U ∧ zNe U)) (.ref (N + k) :: av.map (zcv N b)) := ⟨zblind, fun U hU hW => ⟨rfl, by rw [hU]; exact hR.2.2, by rw [hU]; exact hR.1, va_K.moved hW.alike C.2.2.2.2.2.2.2.2.1, zNe.warm hW C.2.2.2.2.2.2.2.2.2.1⟩⟩
  have hfit : X.length - z_x0 M + z_mc M' ≤ Rm.cells ∧ zsl X - z_s0 M + z_ms M' ≤ Rm.slots := ⟨Nat.le_trans hc.2.1 C.2.2.2.2.2.2.2.2.2.2.1.2.2.1, Nat.le_trans hc.2.2 C.2.2.2.2.2.2.2.2.2.2.1.2.2.2⟩
  have w1n : Cond.code (z_y M') (z_cc M') (z_nL M') none ∈ zG := by rw [← w7]; exact w1
  have hE2 := hE l D cI cZ N b
  rw [w7] at hE2
  rcases hd with ⟨idx, hd, hlk, hlv, rfl⟩ | ⟨idx, host, hd, hlk, hlv, rfl⟩
  · refine zback (M' := M') (P' := P') C K hR hl hc.1 kk ?_
    refine va_runI (As := av.map (zcv N b)) (b := N + k) (n := n) (rest := rest.map (zcv N b)) (index := idx) (Ts := zG) (own := (z_y M).cls) (nL := z_nL M) (cc := z_cc M) (bytes := z_cc M') (maxL := z_nL M') (rm := zRm M') ⟨C.1, C.2.1, C.2.2.1, C.2.2.2.2.1, hts⟩ hE2
      ⟨callB_of n hts (zgood_tbl w1n) rfl rfl rfl (hts _ w2) (hts _ hlk) w3 (zroomR hlv C.2.2.2.2.2.2.2.2.2.2.1 w4), w6, hts _ w5⟩ hpre rfl (by simpa using hn) hl.1 ?_ (lv_room (zstr hr)) hd hfit
    simp [zcv]
  · refine zback (M' := M') (P' := P') C K hR hl hc.1 kk ?_
    refine va_runIN (As := av.map (zcv N b)) (b := N + k) (n := n) (rest := rest.map (zcv N b)) (index := idx) (host := host) (Ts := zG) (own := (z_y M).cls) (nL := z_nL M) (cc := z_cc M) (bytes := z_cc M') (maxL := z_nL M') (rm := zRm M') ⟨C.1, C.2.1, C.2.2.1, C.2.2.2.2.1, hts⟩ hE2
      ⟨va_cnB n hts (zgood_tbl w1n) rfl rfl rfl (C.2.2.2.2.2.2.2.2.2.1 _ hlk) (hts _ w2) w3 (zroomR hlv C.2.2.2.2.2.2.2.2.2.2.1 w4), w6, hts _ w5⟩ hpre rfl (by simpa using hn) hl.1 ?_ (lv_room (zstr hr)) hd hfit
    simp [zcv]
end GC
end
section
section GA
variable {M : zM} {pc nx tgt : Nat} {lv rest : List Value} {X : List zSh} {R : zMR} {h : Int64} {I : zMI} {P : zPost}
theorem zw_push {N : Nat} {cI cZ : ClassId} (sh : zSh) : zw N cI cZ (X ++ [sh]) R h I = zw N cI cZ X R h I ++ [(N + X.length, zce N cI cZ R h I X.length sh)] := by
  simp [zw, List.mapIdx_append]
theorem zsl_push (sh : zSh) : zsl (X ++ [sh]) = zsl X + sh.2 := by simp [zsl]
def dNW (M : zM) (pc c nx : Nat) : Prop := ∃ idx : Nat, decode (z_cc M) pc = .ok (.new idx, 3) ∧ Cond.classLink (z_y M).cls idx (zR c) ∈ zG ∧ Cond.instantiable (zR c) (zF c) ∈ zG ∧ Cond.initialized (zR c) ∈ zG ∧ c < 8 ∧ pc + 3 = nx
def dNA (M : zM) (pc : Nat) (at_ : ArrayType) (nx : Nat) : Prop := decode (z_cc M) pc = .ok (.newarray at_, 2) ∧ Cond.arrayClass (newarray.typeOf at_) ∈ zG ∧ pc + 2 = nx
def dOI (M : zM) (pc nx : Nat) : Prop := ∃ idx : Nat, decode (z_cc M) pc = .ok (.invokespecial idx, 3) ∧ Cond.methodLink (z_y M).cls idx objectInit ∈ zG ∧ 1 ≤ z_lv M ∧ pc + 3 = nx
def dMX (M : zM) (pc : Nat) (y : MethodName) (nx : Nat) : Prop := ∃ idx : Nat, decode (z_cc M) pc = .ok (.invokestatic idx, 3) ∧ Cond.methodLink (z_y M).cls idx y ∈ zG ∧ 1 ≤ z_lv M ∧ pc + 3 = nx
theorem zoi_1 : Cond.instanceMethod objectInit ∈ zG := zG_of (by decide +kernel) rfl
theorem zoi_2 : Cond.code objectInit ⟨#[0xb1]⟩ 1 none ∈ zG := zG_of (by decide +kernel) rfl
theorem zmx_1 : Cond.static Lib.Math.max.name ∈ zG := zG_of (by decide +kernel) rfl
theorem zmx_2 : Cond.code Lib.Math.max.name Lib.Math.max.code 2 (some .int) ∈ zG := zG_of (by decide +kernel) rfl
theorem zmx_3 : Cond.static Lib.Math.min.name ∈ zG := zG_of (by decide +kernel) rfl
theorem zmx_4 : Cond.code Lib.Math.min.name Lib.Math.min.code 2 (some .int) ∈ zG := zG_of (by decide +kernel) rfl
theorem zmx_5 : Cond.initialized "java/lang/Math" ∈ zG := zG_of (by decide +kernel) rfl
theorem g_oi {k : Nat} (hd : dOI M pc nx) (hr : (rest.map fun v => v.category).sum ≤ 8) (kk : zGo M nx lv rest X R h I P) : zGo M pc lv (.ref k :: rest) X R h I P := by
  intro p l e Rm s m args below meth cd D cI cZ N b Q C K H locs ls hR hl
  obtain ⟨idx, hd, hlk, hlv, rfl⟩ := hd
  have hts := C.2.2.2.2.2.1
  have hrm := C.2.2.2.2.2.2.2.2.2.2.1
  exact W.objInit C.1 C.2.1 C.2.2.2.2.1 (hts _ hlk) (hts _ zoi_1) (hts _ zoi_2) rfl (hl.1.trans C.2.2.1.symm) rfl hd (Nat.le_trans hlv hrm.1) (by have := zstr (N := N) (b := b) hr; show 2 * 0 + _ + 12 ≤ _; omega) (kk p l e Rm s m args below meth cd D cI cZ N b Q C K H locs ls hR hl)
theorem g_mmax {x y : Int32} (hd : dMX M pc Lib.Math.max.name nx) (hr : (rest.map fun v => v.category).sum ≤ 8) (hc : X.length - z_x0 M ≤ z_mc M ∧ zsl X - z_s0 M ≤ z_ms M) (kk : zGo M nx lv (.int (if x < y then y else x) :: rest) X R h I P) : zGo M pc lv (.int y :: .int x :: rest) X R h I P := by
  intro p l e Rm s m args below meth cd D cI cZ N b Q C K H locs ls hR hl
  obtain ⟨idx, hd, hlk, hlv, rfl⟩ := hd
  have hts := C.2.2.2.2.2.1
  have hrm := C.2.2.2.2.2.2.2.2.2.2.1
  exact va_mmax C.1 C.2.1 (C.2.2.1.trans hl.1.symm) C.2.2.2.2.1 (hts _ hlk) (hts _ zmx_1) (hts _ zmx_5) (hts _ zmx_2) (Nat.le_trans hlv hrm.1) (by have := zstr (N := N) (b := b) hr; omega) (Nat.le_trans hc.1 hrm.2.2.1) (Nat.le_trans hc.2 hrm.2.2.2) hd (kk p l e Rm s m args below meth cd D cI cZ N b Q C K H locs ls hR hl)
theorem g_mmin {x y : Int32} (hd : dMX M pc Lib.Math.min.name nx) (hr : (rest.map fun v => v.category).sum ≤ 8) (hc : X.length - z_x0 M ≤ z_mc M ∧ zsl X - z_s0 M ≤ z_ms M) (kk : zGo M nx lv (.int (if y < x then y else x) :: rest) X R h I P) : zGo M pc lv (.int y :: .int x :: rest) X R h I P := by
  intro p l e Rm s m args below meth cd D cI cZ N b Q C K H locs ls hR hl
  obtain ⟨idx, hd, hlk, hlv, rfl⟩ := hd
  have hts := C.2.2.2.2.2.1
  have hrm := C.2.2.2.2.2.2.2.2.2.2.1
  exact va_mmin C.1 C.2.1 (C.2.2.1.trans hl.1.symm) C.2.2.2.2.1 (hts _ hlk) (hts _ zmx_3) (hts _ zmx_5) (hts _ zmx_4) (Nat.le_trans hlv hrm.1) (by have := zstr (N := N) (b := b) hr; omega) (Nat.le_trans hc.1 hrm.2.2.1) (Nat.le_trans hc.2 hrm.2.2.2) hd (kk p l e Rm s m args below meth cd D cI cZ N b Q C K H locs ls hR hl)
theorem g_sld {L : Nat} {xs : Nat → Int32} {x : UInt32} {i : Int32} (hd : dO M pc .iaload nx) (hsc : z_sc M = some (L, xs)) (hi : vp_in i L) (kk : zGo M nx lv (.int (xs i.toNatClampNeg) :: rest) X R h I P) : zGo M pc lv (.int i :: .float x :: rest) X R h I P := by
  intro p l e Rm s m args below meth cd D cI cZ N b Q C K H locs ls hR hl
  obtain ⟨hd, rfl⟩ := hd
  have hS := C.2.2.2.2.2.2.2.2.2.2.2.2
  rw [hsc] at hS
  obtain ⟨h1, h2, h3⟩ := hS
  exact va_sld (A := fun q : Nat => N ≤ q) C.1 C.2.1 h1 h2 (Nat.not_le.mpr h3) hR.2.1 hi hd (kk p l e Rm s m args below meth cd D cI cZ N b Q C K H locs ls hR hl)
theorem g_slen {L : Nat} {xs : Nat → Int32} {x : UInt32} (hd : dO M pc .arraylength nx) (hsc : z_sc M = some (L, xs)) (kk : zGo M nx lv (.int (nI L) :: rest) X R h I P) : zGo M pc lv (.float x :: rest) X R h I P := by
  intro p l e Rm s m args below meth cd D cI cZ N b Q C K H locs ls hR hl
  obtain ⟨hd, rfl⟩ := hd
  have hS := C.2.2.2.2.2.2.2.2.2.2.2.2
  rw [hsc] at hS
  obtain ⟨h1, h2, h3⟩ := hS
  exact va_slen (A := fun q : Nat => N ≤ q) C.1 C.2.1 h1 h2 (Nat.not_le.mpr h3) hR.2.1 hd (kk p l e Rm s m args below meth cd D cI cZ N b Q C K H locs ls hR hl)
theorem zpushS {D : va_G} {cI cZ : ClassId} {N : Nat} {s : State} {H H1 : Heap} {locs : List Loc} {sh : zSh} (hR : zRp D cI cZ N X R h I s H locs) (z1 : H1.size = N + X.length + 1) (o1 : ∀ q, q < N + X.length → H1[q]? = H[q]?) (hat : va_at D zcl (N + X.length, zce N cI cZ R h I X.length sh) H1) : zRp D cI cZ N (X ++ [sh]) R h I s H1 locs := by
  have hk : ∀ (k : Nat) (x : Nat × va_E), (zw N cI cZ X R h I)[k]? = some x → H1[x.1]? = H[x.1]? := fun k x hx => o1 x.1 (by rw [← hR.2.2]; exact (hR.1 k x hx).lt)
  refine ⟨?_, ⟨by rw [z1]; have := hR.2.1.1; have := hR.2.2; omega, fun x h1 h2 => (o1 x (by have := hR.2.1.1; have := hR.2.2; omega)).trans (hR.2.1.2.1 x h1 h2), hR.2.1.2.2⟩, by rw [z1]; simp; omega⟩
  rw [zw_push]
  refine (hR.1.kept hk).app (fun k x hx => ?_)
  have hz : k < 1 := (List.getElem?_eq_some_iff.mp hx).1
  rw [show k = 0 by omega] at hx
  cases hx
  exact hat
def zkind : FieldType → Bool
  | .int => true
  | .boolean => true
  | .long => true
  | .object _ => true
  | .array _ => true
  | _ => false
theorem zt_kind : ∀ c, c < 8 → ∀ j, j < zF c → zkind (zt c j) = true := by decide +kernel
theorem zt_def (N : Nat) (t : FieldType) (h : zkind t = true) : defaultValue t = zfv N t 0 none 0 := by
  cases t <;> first | rfl | (simp [zkind] at h)
theorem g_new {c : Nat} (hd : dNW M pc c nx) (hx : z_x0 M ≤ X.length ∧ z_s0 M ≤ zsl X) (hc : X.length - z_x0 M + 1 ≤ z_mc M ∧ zsl X - z_s0 M + zF c ≤ z_ms M) (hI : ∀ j, I X.length j = 0) (hRn : ∀ j, R X.length j = none) (hh : h = 0) (kk : zGo M nx lv (.ref X.length :: rest) (X ++ [(c + 2, zF c)]) R h I P) : zGo M pc lv rest X R h I P := by
  intro p l e Rm s m args below meth cd D cI cZ N b Q C K H locs ls hR hl
  obtain ⟨idx, hd, hw1, hw2, hw3, hc8, rfl⟩ := hd
  have hts := C.2.2.2.2.2.1
  have hrm := C.2.2.2.2.2.2.2.2.2.2.1
  have hK := C.2.2.2.2.2.2.2.2.1
  have hKn := hK.1 c _ (zcl_at c hc8)
  refine W.newcK C.1 C.2.1 C.2.2.2.2.1 (hts _ hw1) (hts _ hw2) (hts _ hw3) rfl hd (Nat.le_trans hc.1 hrm.2.2.1) (Nat.le_trans hc.2 hrm.2.2.2) hKn.2.1 hR.2.2 fun H1 kC hkC e1 z1 o1 => ?_
  have hat : va_at D zcl (N + X.length, zce N cI cZ R h I X.length (c + 2, zF c)) H1 := by
    refine ⟨_, zcl_at c hc8, (u_born (zt c) hts (zin_ok c hc8) hKn hkC e1 (zty_ok c hc8)).to (fun j hj => ?_)⟩
    show defaultValue (zt c j) = vp_V _ j
    have hj2 : j < zF c := hj
    simp only [vp_V, List.getD_eq_getElem?_getD, hI, hRn, hh]
    rw [List.getElem?_map, List.getElem?_range hj2]
    exact zt_def N _ (zt_kind c hc8 j hj)
  have hR2 := zpushS hR z1 o1 hat
  have hz1 : (X ++ [(c + 2, zF c)]).length - z_x0 M = X.length - z_x0 M + 1 := by simp; omega
  have hz2 : zsl (X ++ [(c + 2, zF c)]) - z_s0 M = zsl X - z_s0 M + zF c := by rw [zsl_push]; omega
  have key := kk p l e Rm s m args below meth cd D cI cZ N b Q C K H1 locs ls hR2 hl
  rw [hz1, hz2] at key
  exact key
theorem zarr {D : va_G} {cI cZ : ClassId} {s : State} (hK : va_K D zcl (zty cI cZ) s) : s.vm.findClass ("[" ++ (FieldType.int).toString) = some cI ∧ s.vm.findClass ("[" ++ (FieldType.boolean).toString) = some cZ := ⟨(hK.2 0 _ rfl).2, (hK.2 1 _ rfl).2⟩
theorem g_newi {n : Nat} (hd : dNA M pc .int nx) (hx : z_x0 M ≤ X.length ∧ z_s0 M ≤ zsl X) (hn : n ≤ 1000) (hc : X.length - z_x0 M + 1 ≤ z_mc M ∧ zsl X - z_s0 M + n ≤ z_ms M) (hI : ∀ j, I X.length j = 0) (kk : zGo M nx lv (.ref X.length :: rest) (X ++ [(0, n)]) R h I P) : zGo M pc lv (.int (nI n) :: rest) X R h I P := by
  intro p l e Rm s m args below meth cd D cI cZ N b Q C K H locs ls hR hl
  obtain ⟨hd, hw, rfl⟩ := hd
  have hts := C.2.2.2.2.2.1
  have hrm := C.2.2.2.2.2.2.2.2.2.2.1
  refine va_newaK (N := n) C.1 C.2.1 (hts _ hw) rfl hd rfl (nI_pos (by omega)) (nI_clamp (by omega)) (by show n * 4 ≤ _; omega) (Nat.le_trans hc.1 hrm.2.2.1) (Nat.le_trans hc.2 hrm.2.2.2) hR.2.2 fun H1 cA e1 z1 o1 _ hfc => ?_
  have hcA : cA = cI := Option.some.inj (hfc.symm.trans (zarr C.2.2.2.2.2.2.2.2.1).1)
  subst hcA
  have hat : va_at D zcl (N + X.length, zce N cA cZ R h I X.length (0, n)) H1 := by
    show H1[N + X.length]? = some (vp_cell cA (n, .inl (I X.length)))
    rw [vp_cell_i, e1]
    congr 2
    funext j
    rw [hI]; rfl
  have hR2 := zpushS hR z1 o1 hat
  have hz1 : (X ++ [(0, n)]).length - z_x0 M = X.length - z_x0 M + 1 := by simp; omega
  have hz2 : zsl (X ++ [(0, n)]) - z_s0 M = zsl X - z_s0 M + n := by rw [zsl_push]; omega
  have key := kk p l e Rm s m args below meth cd D cA cZ N b Q C K H1 locs ls hR2 hl
  rw [hz1, hz2] at key
  exact key
theorem g_newz {n : Nat} (hd : dNA M pc .boolean nx) (hx : z_x0 M ≤ X.length ∧ z_s0 M ≤ zsl X) (hn : n ≤ 1000) (hc : X.length - z_x0 M + 1 ≤ z_mc M ∧ zsl X - z_s0 M + n ≤ z_ms M) (hI : ∀ j, I X.length j = 0) (kk : zGo M nx lv (.ref X.length :: rest) (X ++ [(1, n)]) R h I P) : zGo M pc lv (.int (nI n) :: rest) X R h I P := by
  intro p l e Rm s m args below meth cd D cI cZ N b Q C K H locs ls hR hl
  obtain ⟨hd, hw, rfl⟩ := hd
  have hts := C.2.2.2.2.2.1
  have hrm := C.2.2.2.2.2.2.2.2.2.2.1
  refine va_newaK (N := n) C.1 C.2.1 (hts _ hw) rfl hd rfl (nI_pos (by omega)) (nI_clamp (by omega)) (by show n * 1 ≤ _; omega) (Nat.le_trans hc.1 hrm.2.2.1) (Nat.le_trans hc.2 hrm.2.2.2) hR.2.2 fun H1 cA e1 z1 o1 _ hfc => ?_
  have hcA : cA = cZ := Option.some.inj (hfc.symm.trans (zarr C.2.2.2.2.2.2.2.2.1).2)
  subst hcA
  have hat : va_at D zcl (N + X.length, zce N cI cA R h I X.length (1, n)) H1 := by
    show H1[N + X.length]? = some (vp_cell cA (n, .inl (I X.length)))
    rw [vp_cell_i, e1]
    congr 2
    funext j
    rw [hI]; rfl
  have hR2 := zpushS hR z1 o1 hat
  have hz1 : (X ++ [(1, n)]).length - z_x0 M = X.length - z_x0 M + 1 := by simp; omega
  have hz2 : zsl (X ++ [(1, n)]) - z_s0 M = zsl X - z_s0 M + n := by rw [zsl_push]; omega
  have key := kk p l e Rm s m args below meth cd D cI cA N b Q C K H1 locs ls hR2 hl
  rw [hz1, hz2] at key
  exact key
end GA
end
section
theorem zz_last : True := trivial
end
