theorem pl0_waysToAll : zPl m0_waysToAll := ⟨⟨rfl, rfl, rfl, rfl⟩, rfl⟩
theorem pl0_lengthen : zPl m0_lengthen := ⟨⟨rfl, rfl, rfl, rfl⟩, rfl⟩
theorem pl0_lengthenFrom : zPl m0_lengthenFrom := ⟨⟨rfl, rfl, rfl, rfl⟩, rfl⟩
theorem pl0_wipe : zPl m0_wipe := ⟨⟨rfl, rfl, rfl, rfl⟩, rfl⟩
theorem pl1_append : zPl m1_append := ⟨⟨rfl, rfl, rfl, rfl⟩, rfl⟩
theorem pl2_read : zPl m2_read := ⟨⟨rfl, rfl, rfl, rfl⟩, rfl⟩
theorem pl2_isComplete : zPl m2_isComplete := ⟨⟨rfl, rfl, rfl, rfl⟩, rfl⟩
theorem pl2_moveTo : zPl m2_moveTo := ⟨⟨rfl, rfl, rfl, rfl⟩, rfl⟩
theorem pl2_takes : zPl m2_takes := ⟨⟨rfl, rfl, rfl, rfl⟩, rfl⟩
theorem pl2_takesInAct : zPl m2_takesInAct := ⟨⟨rfl, rfl, rfl, rfl⟩, rfl⟩
theorem pl2_takesKind : zPl m2_takesKind := ⟨⟨rfl, rfl, rfl, rfl⟩, rfl⟩
theorem pl2_takesSign : zPl m2_takesSign := ⟨⟨rfl, rfl, rfl, rfl⟩, rfl⟩
theorem pl2_takesGoal : zPl m2_takesGoal := ⟨⟨rfl, rfl, rfl, rfl⟩, rfl⟩
theorem pl2_takesAfterGoal : zPl m2_takesAfterGoal := ⟨⟨rfl, rfl, rfl, rfl⟩, rfl⟩
theorem pl2_takesFirstFact : zPl m2_takesFirstFact := ⟨⟨rfl, rfl, rfl, rfl⟩, rfl⟩
theorem pl2_takesOwner : zPl m2_takesOwner := ⟨⟨rfl, rfl, rfl, rfl⟩, rfl⟩
theorem pl2_takesInNeeds : zPl m2_takesInNeeds := ⟨⟨rfl, rfl, rfl, rfl⟩, rfl⟩
theorem pl2_takesInMakes : zPl m2_takesInMakes := ⟨⟨rfl, rfl, rfl, rfl⟩, rfl⟩
theorem pl2_takesFact : zPl m2_takesFact := ⟨⟨rfl, rfl, rfl, rfl⟩, rfl⟩
theorem pl2_isNext : zPl m2_isNext := ⟨⟨rfl, rfl, rfl, rfl⟩, rfl⟩
theorem pl2_factOf : zPl m2_factOf := ⟨⟨rfl, rfl, rfl, rfl⟩, rfl⟩
theorem pl3_begin : zPl m3_begin := ⟨⟨rfl, rfl, rfl, rfl⟩, rfl⟩
theorem pl3_seek : zPl m3_seek := ⟨⟨rfl, rfl, rfl, rfl⟩, rfl⟩
theorem pl3_spread : zPl m3_spread := ⟨⟨rfl, rfl, rfl, rfl⟩, rfl⟩
theorem pl3_end : zPl m3_end := ⟨⟨rfl, rfl, rfl, rfl⟩, rfl⟩
theorem pl3_firstAct : zPl m3_firstAct := ⟨⟨rfl, rfl, rfl, rfl⟩, rfl⟩
theorem pl3_actAt : zPl m3_actAt := ⟨⟨rfl, rfl, rfl, rfl⟩, rfl⟩
theorem pl4_begin : zPl m4_begin := ⟨⟨rfl, rfl, rfl, rfl⟩, rfl⟩
theorem pl4_addAct : zPl m4_addAct := ⟨⟨rfl, rfl, rfl, rfl⟩, rfl⟩
theorem pl4_addFate : zPl m4_addFate := ⟨⟨rfl, rfl, rfl, rfl⟩, rfl⟩
theorem pl4_closeStep : zPl m4_closeStep := ⟨⟨rfl, rfl, rfl, rfl⟩, rfl⟩
theorem pl4_linkBack : zPl m4_linkBack := ⟨⟨rfl, rfl, rfl, rfl⟩, rfl⟩
theorem pl4_removeLast : zPl m4_removeLast := ⟨⟨rfl, rfl, rfl, rfl⟩, rfl⟩
theorem pl4_allSteps : zPl m4_allSteps := ⟨⟨rfl, rfl, rfl, rfl⟩, rfl⟩
theorem pl4_allLinks : zPl m4_allLinks := ⟨⟨rfl, rfl, rfl, rfl⟩, rfl⟩
theorem pl4_widestLink : zPl m4_widestLink := ⟨⟨rfl, rfl, rfl, rfl⟩, rfl⟩
theorem pl4_sortIntoThread : zPl m4_sortIntoThread := ⟨⟨rfl, rfl, rfl, rfl⟩, rfl⟩
theorem pl4_joinThreads : zPl m4_joinThreads := ⟨⟨rfl, rfl, rfl, rfl⟩, rfl⟩
theorem pl4_threadsBefore : zPl m4_threadsBefore := ⟨⟨rfl, rfl, rfl, rfl⟩, rfl⟩
theorem pl4_threadOf : zPl m4_threadOf := ⟨⟨rfl, rfl, rfl, rfl⟩, rfl⟩
theorem pl4_isValid : zPl m4_isValid := ⟨⟨rfl, rfl, rfl, rfl⟩, rfl⟩
theorem pl4_isDull : zPl m4_isDull := ⟨⟨rfl, rfl, rfl, rfl⟩, rfl⟩
theorem pl4_dullSteps : zPl m4_dullSteps := ⟨⟨rfl, rfl, rfl, rfl⟩, rfl⟩
theorem pl4_firstDull : zPl m4_firstDull := ⟨⟨rfl, rfl, rfl, rfl⟩, rfl⟩
theorem pl4_minimalSteps : zPl m4_minimalSteps := ⟨⟨rfl, rfl, rfl, rfl⟩, rfl⟩
theorem pl5_clear : zPl m5_clear := ⟨⟨rfl, rfl, rfl, rfl⟩, rfl⟩
theorem pl5_addPerson : zPl m5_addPerson := ⟨⟨rfl, rfl, rfl, rfl⟩, rfl⟩
theorem pl5_addAct : zPl m5_addAct := ⟨⟨rfl, rfl, rfl, rfl⟩, rfl⟩
theorem pl5_everybody : zPl m5_everybody := ⟨⟨rfl, rfl, rfl, rfl⟩, rfl⟩
theorem pl5_everyAct : zPl m5_everyAct := ⟨⟨rfl, rfl, rfl, rfl⟩, rfl⟩
theorem pl5_satisfiedBy : zPl m5_satisfiedBy := ⟨⟨rfl, rfl, rfl, rfl⟩, rfl⟩
theorem pl5_goalsToBeTrue : zPl m5_goalsToBeTrue := ⟨⟨rfl, rfl, rfl, rfl⟩, rfl⟩
theorem pl5_goalsToBeFalse : zPl m5_goalsToBeFalse := ⟨⟨rfl, rfl, rfl, rfl⟩, rfl⟩
theorem pl5_factsOf : zPl m5_factsOf := ⟨⟨rfl, rfl, rfl, rfl⟩, rfl⟩
theorem pl6_letter : zPl m6_letter := ⟨⟨rfl, rfl, rfl, rfl⟩, rfl⟩
theorem pl6_blank : zPl m6_blank := ⟨⟨rfl, rfl, rfl, rfl⟩, rfl⟩
theorem pl6_fault : zPl m6_fault := ⟨⟨rfl, rfl, rfl, rfl⟩, rfl⟩
theorem pl6_world : zPl m6_world := ⟨⟨rfl, rfl, rfl, rfl⟩, rfl⟩
theorem pl6_go : zPl m6_go := ⟨⟨rfl, rfl, rfl, rfl⟩, rfl⟩
theorem pl6_fate : zPl m6_fate := ⟨⟨rfl, rfl, rfl, rfl⟩, rfl⟩
theorem pl6_act : zPl m6_act := ⟨⟨rfl, rfl, rfl, rfl⟩, rfl⟩
theorem pl6_undo : zPl m6_undo := ⟨⟨rfl, rfl, rfl, rfl⟩, rfl⟩
theorem pl6_about : zPl m6_about := ⟨⟨rfl, rfl, rfl, rfl⟩, rfl⟩
theorem pl6_one : zPl m6_one := ⟨⟨rfl, rfl, rfl, rfl⟩, rfl⟩
theorem pl6_plan : zPl m6_plan := ⟨⟨rfl, rfl, rfl, rfl⟩, rfl⟩
theorem pl6_foil : zPl m6_foil := ⟨⟨rfl, rfl, rfl, rfl⟩, rfl⟩
theorem pl6_deed : zPl m6_deed := ⟨⟨rfl, rfl, rfl, rfl⟩, rfl⟩
theorem pl6_step : zPl m6_step := ⟨⟨rfl, rfl, rfl, rfl⟩, rfl⟩
theorem pl6_story : zPl m6_story := ⟨⟨rfl, rfl, rfl, rfl⟩, rfl⟩
theorem pl6_together : zPl m6_together := ⟨⟨rfl, rfl, rfl, rfl⟩, rfl⟩
theorem pl6_ways : zPl m6_ways := ⟨⟨rfl, rfl, rfl, rfl⟩, rfl⟩
theorem pl6_count : zPl m6_count := ⟨⟨rfl, rfl, rfl, rfl⟩, rfl⟩
theorem pl6_digest : zPl m6_digest := ⟨⟨rfl, rfl, rfl, rfl⟩, rfl⟩
theorem pl6_withActs : zPl m6_withActs := ⟨⟨rfl, rfl, rfl, rfl⟩, rfl⟩
theorem pl6_withSteps : zPl m6_withSteps := ⟨⟨rfl, rfl, rfl, rfl⟩, rfl⟩
theorem pl6_withWays : zPl m6_withWays := ⟨⟨rfl, rfl, rfl, rfl⟩, rfl⟩
theorem pl6_withPath : zPl m6_withPath := ⟨⟨rfl, rfl, rfl, rfl⟩, rfl⟩
theorem pl6_isPerson : zPl m6_isPerson := ⟨⟨rfl, rfl, rfl, rfl⟩, rfl⟩
theorem pl6_isAct : zPl m6_isAct := ⟨⟨rfl, rfl, rfl, rfl⟩, rfl⟩
theorem pl6_canBeDone : zPl m6_canBeDone := ⟨⟨rfl, rfl, rfl, rfl⟩, rfl⟩
theorem pl6_isSatisfied : zPl m6_isSatisfied := ⟨⟨rfl, rfl, rfl, rfl⟩, rfl⟩
theorem pl6_repertoire : zPl m6_repertoire := ⟨⟨rfl, rfl, rfl, rfl⟩, rfl⟩
theorem pl6_stepsOf : zPl m6_stepsOf := ⟨⟨rfl, rfl, rfl, rfl⟩, rfl⟩
theorem pl6_finalTrue : zPl m6_finalTrue := ⟨⟨rfl, rfl, rfl, rfl⟩, rfl⟩
theorem pl6_finalFalse : zPl m6_finalFalse := ⟨⟨rfl, rfl, rfl, rfl⟩, rfl⟩
theorem pl6_passTurn : zPl m6_passTurn := ⟨⟨rfl, rfl, rfl, rfl⟩, rfl⟩
theorem pl6_choice : zPl m6_choice := ⟨⟨rfl, rfl, rfl, rfl⟩, rfl⟩
theorem pl6_seekPlan : zPl m6_seekPlan := ⟨⟨rfl, rfl, rfl, rfl⟩, rfl⟩
theorem pl6_seekTogether : zPl m6_seekTogether := ⟨⟨rfl, rfl, rfl, rfl⟩, rfl⟩
theorem pl6_seekFoil : zPl m6_seekFoil := ⟨⟨rfl, rfl, rfl, rfl⟩, rfl⟩
theorem pl6_holds : zPl m6_holds := ⟨⟨rfl, rfl, rfl, rfl⟩, rfl⟩
theorem pl6_changed : zPl m6_changed := ⟨⟨rfl, rfl, rfl, rfl⟩, rfl⟩
theorem pl6_contains : zPl m6_contains := ⟨⟨rfl, rfl, rfl, rfl⟩, rfl⟩
theorem pl7_within : zPl m7_within := ⟨⟨rfl, rfl, rfl, rfl⟩, rfl⟩
theorem pl7_letter : zPl m7_letter := ⟨⟨rfl, rfl, rfl, rfl⟩, rfl⟩
theorem pl7_blank : zPl m7_blank := ⟨⟨rfl, rfl, rfl, rfl⟩, rfl⟩
theorem pl7_bitOf : zPl m7_bitOf := ⟨⟨rfl, rfl, rfl, rfl⟩, rfl⟩
theorem pl7_comesBehind : zPl m7_comesBehind := ⟨⟨rfl, rfl, rfl, rfl⟩, rfl⟩
theorem pl7_goes : zPl m7_goes := ⟨⟨rfl, rfl, rfl, rfl⟩, rfl⟩
theorem pl7_takesKind : zPl m7_takesKind := ⟨⟨rfl, rfl, rfl, rfl⟩, rfl⟩
theorem pl7_takesSign : zPl m7_takesSign := ⟨⟨rfl, rfl, rfl, rfl⟩, rfl⟩
theorem pl7_takesWant : zPl m7_takesWant := ⟨⟨rfl, rfl, rfl, rfl⟩, rfl⟩
theorem pl7_takesPerson : zPl m7_takesPerson := ⟨⟨rfl, rfl, rfl, rfl⟩, rfl⟩
theorem pl7_takesFirst : zPl m7_takesFirst := ⟨⟨rfl, rfl, rfl, rfl⟩, rfl⟩
theorem pl7_takesWhose : zPl m7_takesWhose := ⟨⟨rfl, rfl, rfl, rfl⟩, rfl⟩
theorem pl7_takesNeeds : zPl m7_takesNeeds := ⟨⟨rfl, rfl, rfl, rfl⟩, rfl⟩
theorem pl7_takesBars : zPl m7_takesBars := ⟨⟨rfl, rfl, rfl, rfl⟩, rfl⟩
theorem pl7_takesNext : zPl m7_takesNext := ⟨⟨rfl, rfl, rfl, rfl⟩, rfl⟩
theorem pl7_takesGives : zPl m7_takesGives := ⟨⟨rfl, rfl, rfl, rfl⟩, rfl⟩
theorem pl7_takesTakes : zPl m7_takesTakes := ⟨⟨rfl, rfl, rfl, rfl⟩, rfl⟩
theorem pl7_takesLetter : zPl m7_takesLetter := ⟨⟨rfl, rfl, rfl, rfl⟩, rfl⟩
theorem pl7_read : zPl m7_read := ⟨⟨rfl, rfl, rfl, rfl⟩, rfl⟩
theorem pl7_fault : zPl m7_fault := ⟨⟨rfl, rfl, rfl, rfl⟩, rfl⟩
theorem pl7_world : zPl m7_world := ⟨⟨rfl, rfl, rfl, rfl⟩, rfl⟩
theorem pl7_isWorld : zPl m7_isWorld := ⟨⟨rfl, rfl, rfl, rfl⟩, rfl⟩
theorem pl7_canDo : zPl m7_canDo := ⟨⟨rfl, rfl, rfl, rfl⟩, rfl⟩
theorem pl7_behind : zPl m7_behind := ⟨⟨rfl, rfl, rfl, rfl⟩, rfl⟩
theorem pl7_isWanted : zPl m7_isWanted := ⟨⟨rfl, rfl, rfl, rfl⟩, rfl⟩
theorem pl7_wantsIn : zPl m7_wantsIn := ⟨⟨rfl, rfl, rfl, rfl⟩, rfl⟩
theorem pl7_timesDone : zPl m7_timesDone := ⟨⟨rfl, rfl, rfl, rfl⟩, rfl⟩
theorem pl7_actsOf : zPl m7_actsOf := ⟨⟨rfl, rfl, rfl, rfl⟩, rfl⟩
theorem pl7_lessFrom : zPl m7_lessFrom := ⟨⟨rfl, rfl, rfl, rfl⟩, rfl⟩
theorem pl7_layFew : zPl m7_layFew := ⟨⟨rfl, rfl, rfl, rfl⟩, rfl⟩
theorem pl7_layPlan : zPl m7_layPlan := ⟨⟨rfl, rfl, rfl, rfl⟩, rfl⟩
theorem pl7_layFoil : zPl m7_layFoil := ⟨⟨rfl, rfl, rfl, rfl⟩, rfl⟩
theorem pl7_layTogether : zPl m7_layTogether := ⟨⟨rfl, rfl, rfl, rfl⟩, rfl⟩
theorem pl7_nextAct : zPl m7_nextAct := ⟨⟨rfl, rfl, rfl, rfl⟩, rfl⟩
theorem pl7_laidAct : zPl m7_laidAct := ⟨⟨rfl, rfl, rfl, rfl⟩, rfl⟩
theorem pl7_laidMany : zPl m7_laidMany := ⟨⟨rfl, rfl, rfl, rfl⟩, rfl⟩
theorem pl7_foilFirst : zPl m7_foilFirst := ⟨⟨rfl, rfl, rfl, rfl⟩, rfl⟩
theorem pl7_wouldDo : zPl m7_wouldDo := ⟨⟨rfl, rfl, rfl, rfl⟩, rfl⟩
theorem pl7_addStep : zPl m7_addStep := ⟨⟨rfl, rfl, rfl, rfl⟩, rfl⟩
theorem pl7_passTurn : zPl m7_passTurn := ⟨⟨rfl, rfl, rfl, rfl⟩, rfl⟩
theorem pl7_goNow : zPl m7_goNow := ⟨⟨rfl, rfl, rfl, rfl⟩, rfl⟩
theorem pl7_go : zPl m7_go := ⟨⟨rfl, rfl, rfl, rfl⟩, rfl⟩
theorem pl7_fate : zPl m7_fate := ⟨⟨rfl, rfl, rfl, rfl⟩, rfl⟩
theorem pl7_isAct : zPl m7_isAct := ⟨⟨rfl, rfl, rfl, rfl⟩, rfl⟩
theorem pl7_act : zPl m7_act := ⟨⟨rfl, rfl, rfl, rfl⟩, rfl⟩
theorem pl7_undo : zPl m7_undo := ⟨⟨rfl, rfl, rfl, rfl⟩, rfl⟩
theorem pl7_aboutNow : zPl m7_aboutNow := ⟨⟨rfl, rfl, rfl, rfl⟩, rfl⟩
theorem pl7_about : zPl m7_about := ⟨⟨rfl, rfl, rfl, rfl⟩, rfl⟩
theorem pl7_stepsBy : zPl m7_stepsBy := ⟨⟨rfl, rfl, rfl, rfl⟩, rfl⟩
theorem pl7_planNow : zPl m7_planNow := ⟨⟨rfl, rfl, rfl, rfl⟩, rfl⟩
theorem pl7_oneNow : zPl m7_oneNow := ⟨⟨rfl, rfl, rfl, rfl⟩, rfl⟩
theorem pl7_isOne : zPl m7_isOne := ⟨⟨rfl, rfl, rfl, rfl⟩, rfl⟩
theorem pl7_one : zPl m7_one := ⟨⟨rfl, rfl, rfl, rfl⟩, rfl⟩
theorem pl7_plan : zPl m7_plan := ⟨⟨rfl, rfl, rfl, rfl⟩, rfl⟩
theorem pl7_foilNow : zPl m7_foilNow := ⟨⟨rfl, rfl, rfl, rfl⟩, rfl⟩
theorem pl7_foil : zPl m7_foil := ⟨⟨rfl, rfl, rfl, rfl⟩, rfl⟩
theorem pl7_deedNow : zPl m7_deedNow := ⟨⟨rfl, rfl, rfl, rfl⟩, rfl⟩
theorem pl7_deed : zPl m7_deed := ⟨⟨rfl, rfl, rfl, rfl⟩, rfl⟩
theorem pl7_latest : zPl m7_latest := ⟨⟨rfl, rfl, rfl, rfl⟩, rfl⟩
theorem pl7_linksOf : zPl m7_linksOf := ⟨⟨rfl, rfl, rfl, rfl⟩, rfl⟩
theorem pl7_joins : zPl m7_joins := ⟨⟨rfl, rfl, rfl, rfl⟩, rfl⟩
theorem pl7_layLinks : zPl m7_layLinks := ⟨⟨rfl, rfl, rfl, rfl⟩, rfl⟩
theorem pl7_threadsAhead : zPl m7_threadsAhead := ⟨⟨rfl, rfl, rfl, rfl⟩, rfl⟩
theorem pl7_isDull : zPl m7_isDull := ⟨⟨rfl, rfl, rfl, rfl⟩, rfl⟩
theorem pl7_allSteps : zPl m7_allSteps := ⟨⟨rfl, rfl, rfl, rfl⟩, rfl⟩
theorem pl7_stepNow : zPl m7_stepNow := ⟨⟨rfl, rfl, rfl, rfl⟩, rfl⟩
theorem pl7_factOf : zPl m7_factOf := ⟨⟨rfl, rfl, rfl, rfl⟩, rfl⟩
theorem pl7_stepTold : zPl m7_stepTold := ⟨⟨rfl, rfl, rfl, rfl⟩, rfl⟩
theorem pl7_step : zPl m7_step := ⟨⟨rfl, rfl, rfl, rfl⟩, rfl⟩
theorem pl7_dullMany : zPl m7_dullMany := ⟨⟨rfl, rfl, rfl, rfl⟩, rfl⟩
theorem pl7_firstDull : zPl m7_firstDull := ⟨⟨rfl, rfl, rfl, rfl⟩, rfl⟩
theorem pl7_cut : zPl m7_cut := ⟨⟨rfl, rfl, rfl, rfl⟩, rfl⟩
theorem pl7_bits : zPl m7_bits := ⟨⟨rfl, rfl, rfl, rfl⟩, rfl⟩
theorem pl7_linksMany : zPl m7_linksMany := ⟨⟨rfl, rfl, rfl, rfl⟩, rfl⟩
theorem pl7_farthest : zPl m7_farthest := ⟨⟨rfl, rfl, rfl, rfl⟩, rfl⟩
theorem pl7_storyNow : zPl m7_storyNow := ⟨⟨rfl, rfl, rfl, rfl⟩, rfl⟩
theorem pl7_story : zPl m7_story := ⟨⟨rfl, rfl, rfl, rfl⟩, rfl⟩
theorem pl7_togetherNow : zPl m7_togetherNow := ⟨⟨rfl, rfl, rfl, rfl⟩, rfl⟩
theorem pl7_together : zPl m7_together := ⟨⟨rfl, rfl, rfl, rfl⟩, rfl⟩
theorem pl7_layMore : zPl m7_layMore := ⟨⟨rfl, rfl, rfl, rfl⟩, rfl⟩
theorem pl7_waysNow : zPl m7_waysNow := ⟨⟨rfl, rfl, rfl, rfl⟩, rfl⟩
theorem pl7_ways : zPl m7_ways := ⟨⟨rfl, rfl, rfl, rfl⟩, rfl⟩
theorem pl7_howMany : zPl m7_howMany := ⟨⟨rfl, rfl, rfl, rfl⟩, rfl⟩
theorem pl7_count : zPl m7_count := ⟨⟨rfl, rfl, rfl, rfl⟩, rfl⟩
theorem pl7_mix : zPl m7_mix := ⟨⟨rfl, rfl, rfl, rfl⟩, rfl⟩
theorem pl7_mixPeople : zPl m7_mixPeople := ⟨⟨rfl, rfl, rfl, rfl⟩, rfl⟩
theorem pl7_mixStory : zPl m7_mixStory := ⟨⟨rfl, rfl, rfl, rfl⟩, rfl⟩
theorem pl7_digest : zPl m7_digest := ⟨⟨rfl, rfl, rfl, rfl⟩, rfl⟩
theorem plj6_bitCount_0f7a4 : zPl mj6_bitCount_0f7a4 := ⟨⟨rfl, rfl, rfl, rfl⟩, rfl⟩
theorem plj9_max_7cf53 : zPl mj9_max_7cf53 := ⟨⟨rfl, rfl, rfl, rfl⟩, rfl⟩
theorem plj9_min_7cf53 : zPl mj9_min_7cf53 := ⟨⟨rfl, rfl, rfl, rfl⟩, rfl⟩
theorem ev6_holds {R : zMR} {h : Int64} {I : zMI} {f y n : Int32} : zEr m6_holds R h I [.int f, .int y, .int n] (some (.int (zb (f &&& y = y ∧ f &&& n = 0)))) R h I := by
  refine zEp_of [.int f, .int y, .int n] pl6_holds (by decide +kernel) (fun _ _ => rfl) (fun _ _ => Nat.le_of_ble_eq_true rfl) ?_
  refine g_il0 r6_holds_0 ?_
  refine g_il1 r6_holds_1 ?_
  refine g_iand r6_holds_2 ?_
  refine g_il1 r6_holds_3 ?_
  refine g_icne r6_holds_4 (fun h4 => ?_) (fun h4 => ?_)
  · refine g_k r6_holds_17 ?_
    exact g_zret r6_holds_18 rfl (Or.inl rfl) ⟨rfl, ⟨zrt (by first | rfl | (simp [zb, zs_ap, upd_ap, *]; done) | (simp_all [zb, zs_ap, upd_ap]; done) | (simp only [zb, zs_ap, upd_ap, Int32.le_iff_toInt_le, Int32.lt_iff_toInt_lt] at *; (repeat' split) <;> first | rfl | omega)), rfl, rfl, rfl⟩⟩
  · refine g_il0 r6_holds_7 ?_
    refine g_il2 r6_holds_8 ?_
    refine g_iand r6_holds_9 ?_
    refine g_ifne r6_holds_10 (fun h10 => ?_) (fun h10 => ?_)
    · refine g_k r6_holds_17 ?_
      exact g_zret r6_holds_18 rfl (Or.inl rfl) ⟨rfl, ⟨zrt (by first | rfl | (simp [zb, zs_ap, upd_ap, *]; done) | (simp_all [zb, zs_ap, upd_ap]; done) | (simp only [zb, zs_ap, upd_ap, Int32.le_iff_toInt_le, Int32.lt_iff_toInt_lt] at *; (repeat' split) <;> first | rfl | omega)), rfl, rfl, rfl⟩⟩
    · refine g_k r6_holds_13 ?_
      refine g_goto r6_holds_14 ?_
      exact g_zret r6_holds_18 rfl (Or.inr rfl) ⟨rfl, ⟨zrt (by first | rfl | (simp [zb, zs_ap, upd_ap, *]; done) | (simp_all [zb, zs_ap, upd_ap]; done) | (simp only [zb, zs_ap, upd_ap, Int32.le_iff_toInt_le, Int32.lt_iff_toInt_lt] at *; (repeat' split) <;> first | rfl | omega)), rfl, rfl, rfl⟩⟩
theorem ev6_changed {R : zMR} {h : Int64} {I : zMI} {f y n : Int32} : zEr m6_changed R h I [.int f, .int y, .int n] (some (.int (((f ||| y) &&& (n ^^^ (-1))) &&& 255))) R h I := by
  refine zEp_of [.int f, .int y, .int n] pl6_changed (by decide +kernel) (fun _ _ => rfl) (fun _ _ => Nat.le_of_ble_eq_true rfl) ?_
  refine g_il0 r6_changed_0 ?_
  refine g_il1 r6_changed_1 ?_
  refine g_ior r6_changed_2 ?_
  refine g_il2 r6_changed_3 ?_
  refine g_k r6_changed_4 ?_
  refine g_ixor r6_changed_5 ?_
  refine g_iand r6_changed_6 ?_
  refine g_k r6_changed_7 ?_
  refine g_iand r6_changed_10 ?_
  exact g_iret r6_changed_11 rfl ⟨rfl, ⟨zrt (by first | rfl | (simp [zb, zs_ap, upd_ap, *]; done) | (simp_all [zb, zs_ap, upd_ap]; done) | (simp only [zb, zs_ap, upd_ap, Int32.le_iff_toInt_le, Int32.lt_iff_toInt_lt] at *; (repeat' split) <;> first | rfl | omega)), rfl, rfl, rfl⟩⟩
theorem ev6_contains {R : zMR} {h : Int64} {I : zMI} {f y : Int32} : zEr m6_contains R h I [.int f, .int y] (some (.int (zb (¬ (f >>> (y &&& 31)) &&& 1 = 0)))) R h I := by
  refine zEp_of [.int f, .int y] pl6_contains (by decide +kernel) (fun _ _ => rfl) (fun _ _ => Nat.le_of_ble_eq_true rfl) ?_
  refine g_il0 r6_contains_0 ?_
  refine g_il1 r6_contains_1 ?_
  refine g_ishr r6_contains_2 ?_
  refine g_k r6_contains_3 ?_
  refine g_iand r6_contains_4 ?_
  refine g_ifeq r6_contains_5 (fun h5 => ?_) (fun h5 => ?_)
  · refine g_k r6_contains_12 ?_
    exact g_zret r6_contains_13 rfl (Or.inl rfl) ⟨rfl, ⟨zrt (by first | rfl | (simp [zb, zs_ap, upd_ap, *]; done) | (simp_all [zb, zs_ap, upd_ap]; done) | (simp only [zb, zs_ap, upd_ap, Int32.le_iff_toInt_le, Int32.lt_iff_toInt_lt] at *; (repeat' split) <;> first | rfl | omega)), rfl, rfl, rfl⟩⟩
  · refine g_k r6_contains_8 ?_
    refine g_goto r6_contains_9 ?_
    exact g_zret r6_contains_13 rfl (Or.inr rfl) ⟨rfl, ⟨zrt (by first | rfl | (simp [zb, zs_ap, upd_ap, *]; done) | (simp_all [zb, zs_ap, upd_ap]; done) | (simp only [zb, zs_ap, upd_ap, Int32.le_iff_toInt_le, Int32.lt_iff_toInt_lt] at *; (repeat' split) <;> first | rfl | omega)), rfl, rfl, rfl⟩⟩
theorem ev7_within {R : zMR} {h : Int64} {I : zMI} {f y n : Int32} : zEr m7_within R h I [.int f, .int y, .int n] (some (.int (zb (¬ f < y ∧ ¬ n < f)))) R h I := by
  refine zEp_of [.int f, .int y, .int n] pl7_within (by decide +kernel) (fun _ _ => rfl) (fun _ _ => Nat.le_of_ble_eq_true rfl) ?_
  refine g_il0 r7_within_0 ?_
  refine g_il1 r7_within_1 ?_
  refine g_iclt r7_within_2 (fun h2 => ?_) (fun h2 => ?_)
  · refine g_k r7_within_14 ?_
    exact g_zret r7_within_15 rfl (Or.inl rfl) ⟨rfl, ⟨zrt (by first | rfl | (simp [zb, zs_ap, upd_ap, *]; done) | (simp_all [zb, zs_ap, upd_ap]; done) | (simp only [zb, zs_ap, upd_ap, Int32.le_iff_toInt_le, Int32.lt_iff_toInt_lt] at *; (repeat' split) <;> first | rfl | omega)), rfl, rfl, rfl⟩⟩
  · refine g_il0 r7_within_5 ?_
    refine g_il2 r7_within_6 ?_
    refine g_icgt r7_within_7 (fun h7 => ?_) (fun h7 => ?_)
    · refine g_k r7_within_14 ?_
      exact g_zret r7_within_15 rfl (Or.inl rfl) ⟨rfl, ⟨zrt (by first | rfl | (simp [zb, zs_ap, upd_ap, *]; done) | (simp_all [zb, zs_ap, upd_ap]; done) | (simp only [zb, zs_ap, upd_ap, Int32.le_iff_toInt_le, Int32.lt_iff_toInt_lt] at *; (repeat' split) <;> first | rfl | omega)), rfl, rfl, rfl⟩⟩
    · refine g_k r7_within_10 ?_
      refine g_goto r7_within_11 ?_
      exact g_zret r7_within_15 rfl (Or.inr rfl) ⟨rfl, ⟨zrt (by first | rfl | (simp [zb, zs_ap, upd_ap, *]; done) | (simp_all [zb, zs_ap, upd_ap]; done) | (simp only [zb, zs_ap, upd_ap, Int32.le_iff_toInt_le, Int32.lt_iff_toInt_lt] at *; (repeat' split) <;> first | rfl | omega)), rfl, rfl, rfl⟩⟩
def zletR (J : zMI) (c : Int32) : Int32 := if ¬ c < 32 ∧ ¬ 126 < c then (if J 54 19 = 90 then -104 else J 54 19 + 1) else -102
def zletN (J : zMI) (c : Int32) : zMI := if (¬ c < 32 ∧ ¬ 126 < c) ∧ ¬ J 54 19 = 90 then zs (zs J 68 (upd (J 68) (J 54 19).toNatClampNeg c)) 54 (upd (J 54) 19 (J 54 19 + 1)) else J
def zbit (c : Int32) : Int32 := if ¬ c < 97 ∧ ¬ 104 < c then 1 <<< ((c - 97) &&& 31) else 0
def zcb (s c : Int32) : Prop := 0 < zbit c ∧ s < zbit c
def zcbD (s c : Int32) : Decidable (zcb s c) := inferInstanceAs (Decidable (_ ∧ _))
def zcbi (s c : Int32) : Int32 := zb (0 < zbit c ∧ s < zbit c)
def zgo (K : zMI) (b n : Int32) : zMI := zs K 54 (upd (K 54) 24 (if b = 0 then K 54 24 else n))
def zkd (c : Int32) : Int32 := if c = 112 then 0 else if c = 115 then 1 else if c = 107 then 2 else if c = 105 then 3 else -1
theorem ev7_bitOf {R : zMR} {h : Int64} {I : zMI} {c : Int32} : zEr m7_bitOf R h I [.int c] (some (.int (zbit c))) R h I := by
  refine zEp_of [.int c] pl7_bitOf (by decide +kernel) (fun _ _ => rfl) (fun _ _ => Nat.le_of_ble_eq_true rfl) ?_
  refine g_il0 r7_bitOf_0 ?_
  refine g_k r7_bitOf_1 ?_
  refine g_k r7_bitOf_3 ?_
  refine g_eS3 r7_bitOf_5 ok7_within pl7_bitOf pl7_within (Nat.le_of_ble_eq_true rfl) (ev7_within) ?_
  refine g_ifeqB r7_bitOf_8 (fun h8 => ?_) (fun h8 => ?_)
  · refine g_k r7_bitOf_20 ?_
    exact g_iret r7_bitOf_21 rfl ⟨rfl, ⟨zrt (by first | rfl | (simp [zbit, zb, zs_ap, upd_ap, *]; done) | (simp_all [zbit, zb, zs_ap, upd_ap]; done) | (simp only [zbit, zb, zs_ap, upd_ap, Int32.le_iff_toInt_le, Int32.lt_iff_toInt_lt] at *; (repeat' split) <;> first | rfl | omega)), rfl, rfl, (by first | rfl | (simp [zbit, zb, zs_ap, upd_ap, *]; done) | (simp_all [zbit, zb, zs_ap, upd_ap]; done) | (simp only [zbit, zb, zs_ap, upd_ap, Int32.le_iff_toInt_le, Int32.lt_iff_toInt_lt] at *; (repeat' split) <;> first | rfl | omega))⟩⟩
  · refine g_k r7_bitOf_11 ?_
    refine g_il0 r7_bitOf_12 ?_
    refine g_k r7_bitOf_13 ?_
    refine g_isub r7_bitOf_15 ?_
    refine g_ishl r7_bitOf_16 ?_
    refine g_goto r7_bitOf_17 ?_
    exact g_iret r7_bitOf_21 rfl ⟨rfl, ⟨zrt (by first | rfl | (simp [zbit, zb, zs_ap, upd_ap, *]; done) | (simp_all [zbit, zb, zs_ap, upd_ap]; done) | (simp only [zbit, zb, zs_ap, upd_ap, Int32.le_iff_toInt_le, Int32.lt_iff_toInt_lt] at *; (repeat' split) <;> first | rfl | omega)), rfl, rfl, (by first | rfl | (simp [zbit, zb, zs_ap, upd_ap, *]; done) | (simp_all [zbit, zb, zs_ap, upd_ap]; done) | (simp only [zbit, zb, zs_ap, upd_ap, Int32.le_iff_toInt_le, Int32.lt_iff_toInt_lt] at *; (repeat' split) <;> first | rfl | omega))⟩⟩
theorem ev7_comesBehind {R : zMR} {h : Int64} {I : zMI} {s c : Int32} : zEr m7_comesBehind R h I [.int s, .int c] (some (.int (zcbi s c))) R h I := by
  refine zEp_of [.int s, .int c] pl7_comesBehind (by decide +kernel) (fun _ _ => rfl) (fun _ _ => Nat.le_of_ble_eq_true rfl) ?_
  refine g_il1 r7_comesBehind_0 ?_
  refine g_eS1 r7_comesBehind_1 ok7_bitOf pl7_comesBehind pl7_bitOf (Nat.le_of_ble_eq_true rfl) (ev7_bitOf) ?_
  refine g_ifleL r7_comesBehind_4 (fun h4 => ?_) (fun h4 => ?_)
  · refine g_k r7_comesBehind_19 ?_
    exact g_zret r7_comesBehind_20 rfl (Or.inl rfl) ⟨rfl, ⟨zrt (by first | rfl | (simp [zcbi, zb, zs_ap, upd_ap, *]; done) | (simp_all [zcbi, zb, zs_ap, upd_ap]; done) | (simp only [zcbi, zb, zs_ap, upd_ap, Int32.le_iff_toInt_le, Int32.lt_iff_toInt_lt] at *; (repeat' split) <;> first | rfl | omega)), rfl, rfl, (by first | rfl | (simp [zcbi, zb, zs_ap, upd_ap, *]; done) | (simp_all [zcbi, zb, zs_ap, upd_ap]; done) | (simp only [zcbi, zb, zs_ap, upd_ap, Int32.le_iff_toInt_le, Int32.lt_iff_toInt_lt] at *; (repeat' split) <;> first | rfl | omega))⟩⟩
  · refine g_il0 r7_comesBehind_7 ?_
    refine g_il1 r7_comesBehind_8 ?_
    refine g_eS1 r7_comesBehind_9 ok7_bitOf pl7_comesBehind pl7_bitOf (Nat.le_of_ble_eq_true rfl) (ev7_bitOf) ?_
    refine g_icgeL r7_comesBehind_12 (fun h12 => ?_) (fun h12 => ?_)
    · refine g_k r7_comesBehind_19 ?_
      exact g_zret r7_comesBehind_20 rfl (Or.inl rfl) ⟨rfl, ⟨zrt (by first | rfl | (simp [zcbi, zb, zs_ap, upd_ap, *]; done) | (simp_all [zcbi, zb, zs_ap, upd_ap]; done) | (simp only [zcbi, zb, zs_ap, upd_ap, Int32.le_iff_toInt_le, Int32.lt_iff_toInt_lt] at *; (repeat' split) <;> first | rfl | omega)), rfl, rfl, (by first | rfl | (simp [zcbi, zb, zs_ap, upd_ap, *]; done) | (simp_all [zcbi, zb, zs_ap, upd_ap]; done) | (simp only [zcbi, zb, zs_ap, upd_ap, Int32.le_iff_toInt_le, Int32.lt_iff_toInt_lt] at *; (repeat' split) <;> first | rfl | omega))⟩⟩
    · refine g_k r7_comesBehind_15 ?_
      refine g_goto r7_comesBehind_16 ?_
      exact g_zret r7_comesBehind_20 rfl (Or.inr rfl) ⟨rfl, ⟨zrt (by first | rfl | (simp [zcbi, zb, zs_ap, upd_ap, *]; done) | (simp_all [zcbi, zb, zs_ap, upd_ap]; done) | (simp only [zcbi, zb, zs_ap, upd_ap, Int32.le_iff_toInt_le, Int32.lt_iff_toInt_lt] at *; (repeat' split) <;> first | rfl | omega)), rfl, rfl, (by first | rfl | (simp [zcbi, zb, zs_ap, upd_ap, *]; done) | (simp_all [zcbi, zb, zs_ap, upd_ap]; done) | (simp only [zcbi, zb, zs_ap, upd_ap, Int32.le_iff_toInt_le, Int32.lt_iff_toInt_lt] at *; (repeat' split) <;> first | rfl | omega))⟩⟩
theorem ev7_isWorld {w v e1 e2 : Nat} {h : Int64} {I : zMI}  : zEr m7_isWorld (zRR w v e1 e2) h I [.ref 54] (some (.int (zb (0 < I 54 5)))) (zRR w v e1 e2) h I := by
  refine zEp_of [.ref 54] pl7_isWorld (by decide +kernel) (fun _ _ => rfl) (fun _ _ => Nat.le_of_ble_eq_true rfl) ?_
  refine g_al0 r7_isWorld_0 ?_
  refine g_gfi r7_isWorld_1 xx_54 rfl ?_
  refine g_ifleL r7_isWorld_4 (fun h4 => ?_) (fun h4 => ?_)
  · refine g_k r7_isWorld_11 ?_
    exact g_zret r7_isWorld_12 rfl (Or.inl rfl) ⟨rfl, ⟨zrt (by first | rfl | (simp [zb, zs_ap, upd_ap, *]; done) | (simp_all [zb, zs_ap, upd_ap]; done) | (simp only [zb, zs_ap, upd_ap, Int32.le_iff_toInt_le, Int32.lt_iff_toInt_lt] at *; (repeat' split) <;> first | rfl | omega)), rfl, rfl, (by first | rfl | (simp [zb, zs_ap, upd_ap, *]; done) | (simp_all [zb, zs_ap, upd_ap]; done) | (simp only [zb, zs_ap, upd_ap, Int32.le_iff_toInt_le, Int32.lt_iff_toInt_lt] at *; (repeat' split) <;> first | rfl | omega))⟩⟩
  · refine g_k r7_isWorld_7 ?_
    refine g_goto r7_isWorld_8 ?_
    exact g_zret r7_isWorld_12 rfl (Or.inr rfl) ⟨rfl, ⟨zrt (by first | rfl | (simp [zb, zs_ap, upd_ap, *]; done) | (simp_all [zb, zs_ap, upd_ap]; done) | (simp only [zb, zs_ap, upd_ap, Int32.le_iff_toInt_le, Int32.lt_iff_toInt_lt] at *; (repeat' split) <;> first | rfl | omega)), rfl, rfl, (by first | rfl | (simp [zb, zs_ap, upd_ap, *]; done) | (simp_all [zb, zs_ap, upd_ap]; done) | (simp only [zb, zs_ap, upd_ap, Int32.le_iff_toInt_le, Int32.lt_iff_toInt_lt] at *; (repeat' split) <;> first | rfl | omega))⟩⟩
theorem ev7_blank {w v e1 e2 : Nat} {h : Int64} {I : zMI}  : zEr m7_blank (zRR w v e1 e2) h I [.ref 54] (some (.int (I 54 19))) (zRR w v e1 e2) h (zs I 54 (upd (I 54) 19 0)) := by
  refine zEp_of [.ref 54, .null] pl7_blank (by decide +kernel) (fun _ _ => rfl) (fun _ _ => Nat.le_of_ble_eq_true rfl) ?_
  refine g_al0 r7_blank_0 ?_
  refine g_gfi r7_blank_1 xx_54 rfl ?_
  refine g_is1 r7_blank_4 rfl ?_
  refine g_al0 r7_blank_5 ?_
  refine g_k r7_blank_6 ?_
  refine g_pfi r7_blank_7 xx_54 rfl rfl ?_
  refine g_il1 r7_blank_10 ?_
  exact g_iret r7_blank_11 rfl ⟨rfl, ⟨zrt (by first | rfl | (simp [zb, zs_ap, upd_ap, *]; done) | (simp_all [zb, zs_ap, upd_ap]; done) | (simp only [zb, zs_ap, upd_ap, Int32.le_iff_toInt_le, Int32.lt_iff_toInt_lt] at *; (repeat' split) <;> first | rfl | omega)), rfl, rfl, (by first | rfl | (simp [zb, zs_ap, upd_ap, *]; done) | (simp_all [zb, zs_ap, upd_ap]; done) | (simp only [zb, zs_ap, upd_ap, Int32.le_iff_toInt_le, Int32.lt_iff_toInt_lt] at *; (repeat' split) <;> first | rfl | omega))⟩⟩
theorem ev7_letter {w v e1 e2 : Nat} {h : Int64} {I : zMI} {c : Int32} (hp : vp_in (I 54 19) 90 ∨ I 54 19 = 90) : zEr m7_letter (zRR w v e1 e2) h I [.ref 54, .int c] (some (.int (zletR I c))) (zRR w v e1 e2) h (zletN I c) := by
  refine zEp_of [.ref 54, .int c] pl7_letter (by decide +kernel) (fun _ _ => rfl) (fun _ _ => Nat.le_of_ble_eq_true rfl) ?_
  refine g_il1 r7_letter_0 ?_
  refine g_k r7_letter_1 ?_
  refine g_k r7_letter_3 ?_
  refine g_eS3 r7_letter_5 ok7_within pl7_letter pl7_within (Nat.le_of_ble_eq_true rfl) (ev7_within) ?_
  refine g_ifneB r7_letter_8 (fun h8 => ?_) (fun h8 => ?_)
  · refine g_al0 r7_letter_14 ?_
    refine g_gfi r7_letter_15 xx_54 rfl ?_
    refine g_k r7_letter_18 ?_
    refine g_icne r7_letter_20 (fun h20 => ?_) (fun h20 => ?_)
    · refine g_al0 r7_letter_26 ?_
      refine g_gfr r7_letter_27 xx_54 rfl rr_54_20 ?_
      refine g_al0 r7_letter_30 ?_
      refine g_gfi r7_letter_31 xx_54 rfl ?_
      refine g_il1 r7_letter_34 ?_
      refine g_iast r7_letter_35 xx_68 (hp.resolve_right h20) ?_
      refine g_al0 r7_letter_36 ?_
      refine g_dup r7_letter_37 rfl ?_
      refine g_gfi r7_letter_38 xx_54 rfl ?_
      refine g_k r7_letter_41 ?_
      refine g_iadd r7_letter_42 ?_
      refine g_pfi r7_letter_43 xx_54 rfl rfl ?_
      refine g_al0 r7_letter_46 ?_
      refine g_gfi r7_letter_47 xx_54 rfl ?_
      exact g_iret r7_letter_50 rfl ⟨rfl, ⟨zrt (by first | rfl | (simp [zletR, zletN, zb, zs_ap, upd_ap, *]; done) | (simp_all [zletR, zletN, zb, zs_ap, upd_ap]; done) | (simp only [zletR, zletN, zb, zs_ap, upd_ap, Int32.le_iff_toInt_le, Int32.lt_iff_toInt_lt] at *; (repeat' split) <;> first | rfl | omega)), rfl, rfl, (by first | rfl | (simp [zletR, zletN, zb, zs_ap, upd_ap, *]; done) | (simp_all [zletR, zletN, zb, zs_ap, upd_ap]; done) | (simp only [zletR, zletN, zb, zs_ap, upd_ap, Int32.le_iff_toInt_le, Int32.lt_iff_toInt_lt] at *; (repeat' split) <;> first | rfl | omega))⟩⟩
    · refine g_k r7_letter_23 ?_
      exact g_iret r7_letter_25 rfl ⟨rfl, ⟨zrt (by first | rfl | (simp [zletR, zletN, zb, zs_ap, upd_ap, *]; done) | (simp_all [zletR, zletN, zb, zs_ap, upd_ap]; done) | (simp only [zletR, zletN, zb, zs_ap, upd_ap, Int32.le_iff_toInt_le, Int32.lt_iff_toInt_lt] at *; (repeat' split) <;> first | rfl | omega)), rfl, rfl, (by first | rfl | (simp [zletR, zletN, zb, zs_ap, upd_ap, *]; done) | (simp_all [zletR, zletN, zb, zs_ap, upd_ap]; done) | (simp only [zletR, zletN, zb, zs_ap, upd_ap, Int32.le_iff_toInt_le, Int32.lt_iff_toInt_lt] at *; (repeat' split) <;> first | rfl | omega))⟩⟩
  · refine g_k r7_letter_11 ?_
    exact g_iret r7_letter_13 rfl ⟨rfl, ⟨zrt (by first | rfl | (simp [zletR, zletN, zb, zs_ap, upd_ap, *]; done) | (simp_all [zletR, zletN, zb, zs_ap, upd_ap]; done) | (simp only [zletR, zletN, zb, zs_ap, upd_ap, Int32.le_iff_toInt_le, Int32.lt_iff_toInt_lt] at *; (repeat' split) <;> first | rfl | omega)), rfl, rfl, (by first | rfl | (simp [zletR, zletN, zb, zs_ap, upd_ap, *]; done) | (simp_all [zletR, zletN, zb, zs_ap, upd_ap]; done) | (simp only [zletR, zletN, zb, zs_ap, upd_ap, Int32.le_iff_toInt_le, Int32.lt_iff_toInt_lt] at *; (repeat' split) <;> first | rfl | omega))⟩⟩
theorem ev7_goes {w v e1 e2 : Nat} {h : Int64} {I : zMI} {b n : Int32} (hb : b = 0 ∨ b = 1) : zEr m7_goes (zRR w v e1 e2) h I [.ref 54, .int b, .int n] (some (.int (b))) (zRR w v e1 e2) h (zgo I b n) := by
  refine zEp_of [.ref 54, .int b, .int n] pl7_goes (by decide +kernel) (fun _ _ => rfl) (fun _ _ => Nat.le_of_ble_eq_true rfl) ?_
  refine g_al0 r7_goes_0 ?_
  refine g_il1 r7_goes_1 ?_
  refine g_ifeq r7_goes_2 (fun h2 => ?_) (fun h2 => ?_)
  · refine g_al0 r7_goes_9 ?_
    refine g_gfi r7_goes_10 xx_54 rfl ?_
    refine g_pfi r7_goes_13 xx_54 rfl rfl ?_
    refine g_il1 r7_goes_16 ?_
    exact g_zret r7_goes_17 rfl (by assumption) ⟨rfl, ⟨zrt (by first | rfl | (simp [zgo, zb, zs_ap, upd_ap, *]; done) | (simp_all [zgo, zb, zs_ap, upd_ap]; done) | (simp only [zgo, zb, zs_ap, upd_ap, Int32.le_iff_toInt_le, Int32.lt_iff_toInt_lt] at *; (repeat' split) <;> first | rfl | omega)), rfl, rfl, (by first | rfl | (simp [zgo, zb, zs_ap, upd_ap, *]; done) | (simp_all [zgo, zb, zs_ap, upd_ap]; done) | (simp only [zgo, zb, zs_ap, upd_ap, Int32.le_iff_toInt_le, Int32.lt_iff_toInt_lt] at *; (repeat' split) <;> first | rfl | omega))⟩⟩
  · refine g_il2 r7_goes_5 ?_
    refine g_goto r7_goes_6 ?_
    refine g_pfi r7_goes_13 xx_54 rfl rfl ?_
    refine g_il1 r7_goes_16 ?_
    exact g_zret r7_goes_17 rfl (by assumption) ⟨rfl, ⟨zrt (by first | rfl | (simp [zgo, zb, zs_ap, upd_ap, *]; done) | (simp_all [zgo, zb, zs_ap, upd_ap]; done) | (simp only [zgo, zb, zs_ap, upd_ap, Int32.le_iff_toInt_le, Int32.lt_iff_toInt_lt] at *; (repeat' split) <;> first | rfl | omega)), rfl, rfl, (by first | rfl | (simp [zgo, zb, zs_ap, upd_ap, *]; done) | (simp_all [zgo, zb, zs_ap, upd_ap]; done) | (simp only [zgo, zb, zs_ap, upd_ap, Int32.le_iff_toInt_le, Int32.lt_iff_toInt_lt] at *; (repeat' split) <;> first | rfl | omega))⟩⟩
def zpKind (K : zMI) (n : Nat) (c : Int32) : zMI := zgo (zs K 69 (upd (K 69) n (zkd c))) (zb (¬ zkd c = -1)) 1
def zpSign (K : zMI) (n : Nat) (c : Int32) : zMI := zgo (zs K 71 (upd (K 71) n (zb (c = 43)))) (zb (c = 43 ∨ c = 45)) 2
def zpWant (K : zMI) (n : Nat) (c : Int32) : zMI := zgo (if 0 < zbit c then zs (zs K 70 (upd (K 70) n (c - 97))) 54 (upd (K 54) 25 (K 54 25 + 1)) else K) (zb (0 < zbit c)) 3
theorem ev7_takesKind {w v e1 e2 : Nat} {h : Int64} {I : zMI} {c : Int32} {n : Nat} (hn : I 54 25 = nI n) (hn4 : n < 4) : zEr m7_takesKind (zRR w v e1 e2) h I [.ref 54, .int c] (some (.int (zb (¬ zkd c = -1)))) (zRR w v e1 e2) h (zpKind I n c) := by
  refine zEp_of [.ref 54, .int c, .null] pl7_takesKind (by decide +kernel) (fun _ _ => rfl) (fun _ _ => Nat.le_of_ble_eq_true rfl) ?_
  refine g_join (pc' := 41) (lv' := [.ref 54, .int c, .null]) (st' := [.int (zkd c)]) (fun j41 => ?_) ?_
  · refine g_il1 r7_takesKind_0 ?_
    refine g_k r7_takesKind_1 ?_
    refine g_icne r7_takesKind_3 (fun h3 => ?_) (fun h3 => ?_)
    · refine g_il1 r7_takesKind_10 ?_
      refine g_k r7_takesKind_11 ?_
      refine g_icne r7_takesKind_13 (fun h13 => ?_) (fun h13 => ?_)
      · refine g_il1 r7_takesKind_20 ?_
        refine g_k r7_takesKind_21 ?_
        refine g_icne r7_takesKind_23 (fun h23 => ?_) (fun h23 => ?_)
        · refine g_il1 r7_takesKind_30 ?_
          refine g_k r7_takesKind_31 ?_
          refine g_icne r7_takesKind_33 (fun h33 => ?_) (fun h33 => ?_)
          · refine g_k r7_takesKind_40 ?_
            exact g_eqv (by first | rfl | (simp [zkd, zb, *]; done) | (simp_all [zkd, zb]; done)) j41
          · refine g_k r7_takesKind_36 ?_
            refine g_goto r7_takesKind_37 ?_
            exact g_eqv (by first | rfl | (simp [zkd, zb, *]; done) | (simp_all [zkd, zb]; done)) j41
        · refine g_k r7_takesKind_26 ?_
          refine g_goto r7_takesKind_27 ?_
          exact g_eqv (by first | rfl | (simp [zkd, zb, *]; done) | (simp_all [zkd, zb]; done)) j41
      · refine g_k r7_takesKind_16 ?_
        refine g_goto r7_takesKind_17 ?_
        exact g_eqv (by first | rfl | (simp [zkd, zb, *]; done) | (simp_all [zkd, zb]; done)) j41
    · refine g_k r7_takesKind_6 ?_
      refine g_goto r7_takesKind_7 ?_
      exact g_eqv (by first | rfl | (simp [zkd, zb, *]; done) | (simp_all [zkd, zb]; done)) j41
  · refine g_is2 r7_takesKind_41 rfl ?_
    refine g_al0 r7_takesKind_42 ?_
    refine g_gfr r7_takesKind_43 xx_54 rfl rr_54_26 ?_
    refine g_al0 r7_takesKind_46 ?_
    refine g_gfi r7_takesKind_47 xx_54 rfl ?_
    refine g_il2 r7_takesKind_50 ?_
    rw [hn]
    refine g_iastN r7_takesKind_51 xx_69 (by omega) (by decide) ?_
    refine g_join (pc' := 64) (lv' := [.ref 54, .int c, .int (zkd c)]) (st' := [.int 1, .int (zb (¬ zkd c = -1)), .ref 54]) (fun j64 => ?_) ?_
    · refine g_al0 r7_takesKind_52 ?_
      refine g_il2 r7_takesKind_53 ?_
      refine g_k r7_takesKind_54 ?_
      refine g_iceq r7_takesKind_55 (fun h55 => ?_) (fun h55 => ?_)
      · refine g_k r7_takesKind_62 ?_
        refine g_k r7_takesKind_63 ?_
        exact g_eqv2 (by simp [zb, *]) j64
      · refine g_k r7_takesKind_58 ?_
        refine g_goto r7_takesKind_59 ?_
        refine g_k r7_takesKind_63 ?_
        exact g_eqv2 (by simp [zb, *]) j64
    · refine g_eV2 r7_takesKind_64 ok7_goes pl7_takesKind pl7_goes xx_54 (Nat.le_of_ble_eq_true rfl) (ev7_goes (zb_01 _)) ?_
      exact g_zret r7_takesKind_67 rfl (zb_01 _) ⟨rfl, ⟨zrt (by first | rfl | (simp [zpKind, zgo, zb, zs_ap, upd_ap, *]; done) | (simp_all [zpKind, zgo, zb, zs_ap, upd_ap]; done) | (simp only [zpKind, zgo, zb, zs_ap, upd_ap, Int32.le_iff_toInt_le, Int32.lt_iff_toInt_lt] at *; (repeat' split) <;> first | rfl | omega)), rfl, rfl, (by first | rfl | (simp [zpKind, zgo, zb, zs_ap, upd_ap, *]; done) | (simp_all [zpKind, zgo, zb, zs_ap, upd_ap]; done) | (simp only [zpKind, zgo, zb, zs_ap, upd_ap, Int32.le_iff_toInt_le, Int32.lt_iff_toInt_lt] at *; (repeat' split) <;> first | rfl | omega))⟩⟩
theorem ev7_takesSign {w v e1 e2 : Nat} {h : Int64} {I : zMI} {c : Int32} {n : Nat} (hn : I 54 25 = nI n) (hn4 : n < 4) : zEr m7_takesSign (zRR w v e1 e2) h I [.ref 54, .int c] (some (.int (zb (c = 43 ∨ c = 45)))) (zRR w v e1 e2) h (zpSign I n c) := by
  refine zEp_of [.ref 54, .int c] pl7_takesSign (by decide +kernel) (fun _ _ => rfl) (fun _ _ => Nat.le_of_ble_eq_true rfl) ?_
  refine g_al0 r7_takesSign_0 ?_
  refine g_gfr r7_takesSign_1 xx_54 rfl rr_54_28 ?_
  refine g_al0 r7_takesSign_4 ?_
  refine g_gfi r7_takesSign_5 xx_54 rfl ?_
  rw [hn]
  refine g_il1 r7_takesSign_8 ?_
  refine g_k r7_takesSign_9 ?_
  refine g_icne r7_takesSign_11 (fun h11 => ?_) (fun h11 => ?_)
  · refine g_k r7_takesSign_18 ?_
    refine g_zastN r7_takesSign_19 xx_71 (by omega) (by decide) (Or.inl rfl) ?_
    refine g_al0 r7_takesSign_20 ?_
    refine g_il1 r7_takesSign_21 ?_
    refine g_k r7_takesSign_22 ?_
    refine g_iceq r7_takesSign_24 (fun h24 => ?_) (fun h24 => ?_)
    · refine g_k r7_takesSign_33 ?_
      refine g_goto r7_takesSign_34 ?_
      refine g_k r7_takesSign_38 ?_
      refine g_eV2 r7_takesSign_39 ok7_goes pl7_takesSign pl7_goes xx_54 (Nat.le_of_ble_eq_true rfl) (ev7_goes (Or.inr rfl)) ?_
      exact g_zret r7_takesSign_42 rfl (Or.inr rfl) ⟨rfl, ⟨zrt (by first | rfl | (simp [zpSign, zgo, zb, zs_ap, upd_ap, *]; done) | (simp_all [zpSign, zgo, zb, zs_ap, upd_ap]; done) | (simp only [zpSign, zgo, zb, zs_ap, upd_ap, Int32.le_iff_toInt_le, Int32.lt_iff_toInt_lt] at *; (repeat' split) <;> first | rfl | omega)), rfl, rfl, (by first | rfl | (simp [zpSign, zgo, zb, zs_ap, upd_ap, *]; done) | (simp_all [zpSign, zgo, zb, zs_ap, upd_ap]; done) | (simp only [zpSign, zgo, zb, zs_ap, upd_ap, Int32.le_iff_toInt_le, Int32.lt_iff_toInt_lt] at *; (repeat' split) <;> first | rfl | omega))⟩⟩
    · refine g_il1 r7_takesSign_27 ?_
      refine g_k r7_takesSign_28 ?_
      refine g_icne r7_takesSign_30 (fun h30 => ?_) (fun h30 => ?_)
      · refine g_k r7_takesSign_37 ?_
        refine g_k r7_takesSign_38 ?_
        refine g_eV2 r7_takesSign_39 ok7_goes pl7_takesSign pl7_goes xx_54 (Nat.le_of_ble_eq_true rfl) (ev7_goes (Or.inl rfl)) ?_
        exact g_zret r7_takesSign_42 rfl (Or.inl rfl) ⟨rfl, ⟨zrt (by first | rfl | (simp [zpSign, zgo, zb, zs_ap, upd_ap, *]; done) | (simp_all [zpSign, zgo, zb, zs_ap, upd_ap]; done) | (simp only [zpSign, zgo, zb, zs_ap, upd_ap, Int32.le_iff_toInt_le, Int32.lt_iff_toInt_lt] at *; (repeat' split) <;> first | rfl | omega)), rfl, rfl, (by first | rfl | (simp [zpSign, zgo, zb, zs_ap, upd_ap, *]; done) | (simp_all [zpSign, zgo, zb, zs_ap, upd_ap]; done) | (simp only [zpSign, zgo, zb, zs_ap, upd_ap, Int32.le_iff_toInt_le, Int32.lt_iff_toInt_lt] at *; (repeat' split) <;> first | rfl | omega))⟩⟩
      · refine g_k r7_takesSign_33 ?_
        refine g_goto r7_takesSign_34 ?_
        refine g_k r7_takesSign_38 ?_
        refine g_eV2 r7_takesSign_39 ok7_goes pl7_takesSign pl7_goes xx_54 (Nat.le_of_ble_eq_true rfl) (ev7_goes (Or.inr rfl)) ?_
        exact g_zret r7_takesSign_42 rfl (Or.inr rfl) ⟨rfl, ⟨zrt (by first | rfl | (simp [zpSign, zgo, zb, zs_ap, upd_ap, *]; done) | (simp_all [zpSign, zgo, zb, zs_ap, upd_ap]; done) | (simp only [zpSign, zgo, zb, zs_ap, upd_ap, Int32.le_iff_toInt_le, Int32.lt_iff_toInt_lt] at *; (repeat' split) <;> first | rfl | omega)), rfl, rfl, (by first | rfl | (simp [zpSign, zgo, zb, zs_ap, upd_ap, *]; done) | (simp_all [zpSign, zgo, zb, zs_ap, upd_ap]; done) | (simp only [zpSign, zgo, zb, zs_ap, upd_ap, Int32.le_iff_toInt_le, Int32.lt_iff_toInt_lt] at *; (repeat' split) <;> first | rfl | omega))⟩⟩
  · refine g_k r7_takesSign_14 ?_
    refine g_goto r7_takesSign_15 ?_
    refine g_zastN r7_takesSign_19 xx_71 (by omega) (by decide) (Or.inr rfl) ?_
    refine g_al0 r7_takesSign_20 ?_
    refine g_il1 r7_takesSign_21 ?_
    refine g_k r7_takesSign_22 ?_
    refine g_iceq r7_takesSign_24 (fun h24 => ?_) (fun h24 => ?_)
    · refine g_k r7_takesSign_33 ?_
      refine g_goto r7_takesSign_34 ?_
      refine g_k r7_takesSign_38 ?_
      refine g_eV2 r7_takesSign_39 ok7_goes pl7_takesSign pl7_goes xx_54 (Nat.le_of_ble_eq_true rfl) (ev7_goes (Or.inr rfl)) ?_
      exact g_zret r7_takesSign_42 rfl (Or.inr rfl) ⟨rfl, ⟨zrt (by first | rfl | (simp [zpSign, zgo, zb, zs_ap, upd_ap, *]; done) | (simp_all [zpSign, zgo, zb, zs_ap, upd_ap]; done) | (simp only [zpSign, zgo, zb, zs_ap, upd_ap, Int32.le_iff_toInt_le, Int32.lt_iff_toInt_lt] at *; (repeat' split) <;> first | rfl | omega)), rfl, rfl, (by first | rfl | (simp [zpSign, zgo, zb, zs_ap, upd_ap, *]; done) | (simp_all [zpSign, zgo, zb, zs_ap, upd_ap]; done) | (simp only [zpSign, zgo, zb, zs_ap, upd_ap, Int32.le_iff_toInt_le, Int32.lt_iff_toInt_lt] at *; (repeat' split) <;> first | rfl | omega))⟩⟩
    · refine g_il1 r7_takesSign_27 ?_
      refine g_k r7_takesSign_28 ?_
      refine g_icne r7_takesSign_30 (fun h30 => ?_) (fun h30 => ?_)
      · refine g_k r7_takesSign_37 ?_
        refine g_k r7_takesSign_38 ?_
        refine g_eV2 r7_takesSign_39 ok7_goes pl7_takesSign pl7_goes xx_54 (Nat.le_of_ble_eq_true rfl) (ev7_goes (Or.inl rfl)) ?_
        exact g_zret r7_takesSign_42 rfl (Or.inl rfl) ⟨rfl, ⟨zrt (by first | rfl | (simp [zpSign, zgo, zb, zs_ap, upd_ap, *]; done) | (simp_all [zpSign, zgo, zb, zs_ap, upd_ap]; done) | (simp only [zpSign, zgo, zb, zs_ap, upd_ap, Int32.le_iff_toInt_le, Int32.lt_iff_toInt_lt] at *; (repeat' split) <;> first | rfl | omega)), rfl, rfl, (by first | rfl | (simp [zpSign, zgo, zb, zs_ap, upd_ap, *]; done) | (simp_all [zpSign, zgo, zb, zs_ap, upd_ap]; done) | (simp only [zpSign, zgo, zb, zs_ap, upd_ap, Int32.le_iff_toInt_le, Int32.lt_iff_toInt_lt] at *; (repeat' split) <;> first | rfl | omega))⟩⟩
      · refine g_k r7_takesSign_33 ?_
        refine g_goto r7_takesSign_34 ?_
        refine g_k r7_takesSign_38 ?_
        refine g_eV2 r7_takesSign_39 ok7_goes pl7_takesSign pl7_goes xx_54 (Nat.le_of_ble_eq_true rfl) (ev7_goes (Or.inr rfl)) ?_
        exact g_zret r7_takesSign_42 rfl (Or.inr rfl) ⟨rfl, ⟨zrt (by first | rfl | (simp [zpSign, zgo, zb, zs_ap, upd_ap, *]; done) | (simp_all [zpSign, zgo, zb, zs_ap, upd_ap]; done) | (simp only [zpSign, zgo, zb, zs_ap, upd_ap, Int32.le_iff_toInt_le, Int32.lt_iff_toInt_lt] at *; (repeat' split) <;> first | rfl | omega)), rfl, rfl, (by first | rfl | (simp [zpSign, zgo, zb, zs_ap, upd_ap, *]; done) | (simp_all [zpSign, zgo, zb, zs_ap, upd_ap]; done) | (simp only [zpSign, zgo, zb, zs_ap, upd_ap, Int32.le_iff_toInt_le, Int32.lt_iff_toInt_lt] at *; (repeat' split) <;> first | rfl | omega))⟩⟩
theorem ev7_takesWant {w v e1 e2 : Nat} {h : Int64} {I : zMI} {c : Int32} {n : Nat} (hn : I 54 25 = nI n) (hn4 : n < 4) : zEr m7_takesWant (zRR w v e1 e2) h I [.ref 54, .int c] (some (.int (zb (0 < zbit c)))) (zRR w v e1 e2) h (zpWant I n c) := by
  refine zEp_of [.ref 54, .int c, .null] pl7_takesWant (by decide +kernel) (fun _ _ => rfl) (fun _ _ => Nat.le_of_ble_eq_true rfl) ?_
  refine g_il1 r7_takesWant_0 ?_
  refine g_eS1 r7_takesWant_1 ok7_bitOf pl7_takesWant pl7_bitOf (Nat.le_of_ble_eq_true rfl) (ev7_bitOf) ?_
  refine g_ifleL r7_takesWant_4 (fun h4 => ?_) (fun h4 => ?_)
  · refine g_k r7_takesWant_11 ?_
    refine g_is2 r7_takesWant_12 rfl ?_
    refine g_il2 r7_takesWant_13 ?_
    refine g_ifeq r7_takesWant_14 (fun _ => ?_) (fun hc => absurd rfl hc)
    refine g_al0 r7_takesWant_40 ?_
    refine g_il2 r7_takesWant_41 ?_
    refine g_k r7_takesWant_42 ?_
    refine g_eV2 r7_takesWant_43 ok7_goes pl7_takesWant pl7_goes xx_54 (Nat.le_of_ble_eq_true rfl) (ev7_goes (Or.inl rfl)) ?_
    exact g_zret r7_takesWant_46 rfl (Or.inl rfl) ⟨rfl, ⟨zrt (by first | rfl | (simp [zpWant, zgo, zb, zs_ap, upd_ap, *]; done) | (simp_all [zpWant, zgo, zb, zs_ap, upd_ap]; done) | (simp only [zpWant, zgo, zb, zs_ap, upd_ap, Int32.le_iff_toInt_le, Int32.lt_iff_toInt_lt] at *; (repeat' split) <;> first | rfl | omega)), rfl, rfl, (by first | rfl | (simp [zpWant, zgo, zb, zs_ap, upd_ap, *]; done) | (simp_all [zpWant, zgo, zb, zs_ap, upd_ap]; done) | (simp only [zpWant, zgo, zb, zs_ap, upd_ap, Int32.le_iff_toInt_le, Int32.lt_iff_toInt_lt] at *; (repeat' split) <;> first | rfl | omega))⟩⟩
  · refine g_k r7_takesWant_7 ?_
    refine g_goto r7_takesWant_8 ?_
    refine g_is2 r7_takesWant_12 rfl ?_
    refine g_il2 r7_takesWant_13 ?_
    refine g_ifeq r7_takesWant_14 (fun hc => absurd hc (by decide)) (fun _ => ?_)
    refine g_al0 r7_takesWant_17 ?_
    refine g_gfr r7_takesWant_18 xx_54 rfl rr_54_27 ?_
    refine g_al0 r7_takesWant_21 ?_
    refine g_gfi r7_takesWant_22 xx_54 rfl ?_
    refine g_il1 r7_takesWant_25 ?_
    refine g_k r7_takesWant_26 ?_
    rw [hn]
    refine g_isub r7_takesWant_28 ?_
    refine g_iastN r7_takesWant_29 xx_70 (by omega) (by decide) ?_
    refine g_al0 r7_takesWant_30 ?_
    refine g_dup r7_takesWant_31 rfl ?_
    refine g_gfi r7_takesWant_32 xx_54 rfl ?_
    refine g_k r7_takesWant_35 ?_
    refine g_iadd r7_takesWant_36 ?_
    refine g_pfi r7_takesWant_37 xx_54 rfl rfl ?_
    refine g_al0 r7_takesWant_40 ?_
    refine g_il2 r7_takesWant_41 ?_
    refine g_k r7_takesWant_42 ?_
    refine g_eV2 r7_takesWant_43 ok7_goes pl7_takesWant pl7_goes xx_54 (Nat.le_of_ble_eq_true rfl) (ev7_goes (Or.inr rfl)) ?_
    exact g_zret r7_takesWant_46 rfl (Or.inr rfl) ⟨rfl, ⟨zrt (by first | rfl | (simp [zpWant, zgo, zb, zs_ap, upd_ap, *]; done) | (simp_all [zpWant, zgo, zb, zs_ap, upd_ap]; done) | (simp only [zpWant, zgo, zb, zs_ap, upd_ap, Int32.le_iff_toInt_le, Int32.lt_iff_toInt_lt] at *; (repeat' split) <;> first | rfl | omega)), rfl, rfl, (by first | rfl | (simp [zpWant, zgo, zb, zs_ap, upd_ap, *]; done) | (simp_all [zpWant, zgo, zb, zs_ap, upd_ap]; done) | (simp only [zpWant, zgo, zb, zs_ap, upd_ap, Int32.le_iff_toInt_le, Int32.lt_iff_toInt_lt] at *; (repeat' split) <;> first | rfl | omega))⟩⟩
def zpAfter (K : zMI) (c : Int32) : zMI := if c = 59 then zgo K 1 4 else zgo K (zb (c = 44 ∧ K 54 25 < 4)) 0
def zpFirst (K : zMI) (c : Int32) : zMI := if c = 58 then zgo K 1 5 else zs K 54 (upd (K 54) 29 (K 54 29 ||| (if zcbi (K 54 29) c = 0 then 0 else zbit c)))
theorem ev7_takesFirst {w v e1 e2 : Nat} {h : Int64} {I : zMI} {c : Int32} : zEr m7_takesFirst (zRR w v e1 e2) h I [.ref 54, .int c] (some (.int (if c = 58 then 1 else zcbi (I 54 29) c))) (zRR w v e1 e2) h (zpFirst I c) := by
  refine zEp_of [.ref 54, .int c, .null] pl7_takesFirst (by decide +kernel) (fun _ _ => rfl) (fun _ _ => Nat.le_of_ble_eq_true rfl) ?_
  refine g_il1 r7_takesFirst_0 ?_
  refine g_k r7_takesFirst_1 ?_
  refine g_icne r7_takesFirst_3 (fun h3 => ?_) (fun h3 => ?_)
  · refine g_al0 r7_takesFirst_13 ?_
    refine g_gfi r7_takesFirst_14 xx_54 rfl ?_
    refine g_il1 r7_takesFirst_17 ?_
    refine g_eS2 r7_takesFirst_18 ok7_comesBehind pl7_takesFirst pl7_comesBehind (Nat.le_of_ble_eq_true rfl) (ev7_comesBehind) ?_
    refine g_is2 r7_takesFirst_21 rfl ?_
    refine g_al0 r7_takesFirst_22 ?_
    refine g_dup r7_takesFirst_23 rfl ?_
    refine g_gfi r7_takesFirst_24 xx_54 rfl ?_
    refine g_il2 r7_takesFirst_27 ?_
    refine g_ifeqB r7_takesFirst_28 (fun h28 => ?_) (fun h28 => ?_)
    · refine g_k r7_takesFirst_38 ?_
      refine g_ior r7_takesFirst_39 ?_
      refine g_pfi r7_takesFirst_40 xx_54 rfl rfl ?_
      refine g_il2 r7_takesFirst_43 ?_
      exact g_zret r7_takesFirst_44 rfl (zb_01 _) ⟨rfl, ⟨zrt (by first | rfl | (simp [zpFirst, zgo, zcbi, zb, zs_ap, upd_ap, *]; done) | (simp_all [zpFirst, zgo, zcbi, zb, zs_ap, upd_ap]; done) | (simp only [zpFirst, zgo, zcbi, zb, zs_ap, upd_ap, Int32.le_iff_toInt_le, Int32.lt_iff_toInt_lt] at *; (repeat' split) <;> first | rfl | omega)), rfl, rfl, (by first | rfl | (simp [zpFirst, zgo, zcbi, zb, zs_ap, upd_ap, *]; done) | (simp_all [zpFirst, zgo, zcbi, zb, zs_ap, upd_ap]; done) | (simp only [zpFirst, zgo, zcbi, zb, zs_ap, upd_ap, Int32.le_iff_toInt_le, Int32.lt_iff_toInt_lt] at *; (repeat' split) <;> first | rfl | omega))⟩⟩
    · refine g_il1 r7_takesFirst_31 ?_
      refine g_eS1 r7_takesFirst_32 ok7_bitOf pl7_takesFirst pl7_bitOf (Nat.le_of_ble_eq_true rfl) (ev7_bitOf) ?_
      refine g_goto r7_takesFirst_35 ?_
      refine g_ior r7_takesFirst_39 ?_
      refine g_pfi r7_takesFirst_40 xx_54 rfl rfl ?_
      refine g_il2 r7_takesFirst_43 ?_
      exact g_zret r7_takesFirst_44 rfl (zb_01 _) ⟨rfl, ⟨zrt (by first | rfl | (simp [zpFirst, zgo, zcbi, zb, zs_ap, upd_ap, *]; done) | (simp_all [zpFirst, zgo, zcbi, zb, zs_ap, upd_ap]; done) | (simp only [zpFirst, zgo, zcbi, zb, zs_ap, upd_ap, Int32.le_iff_toInt_le, Int32.lt_iff_toInt_lt] at *; (repeat' split) <;> first | rfl | omega)), rfl, rfl, (by first | rfl | (simp [zpFirst, zgo, zcbi, zb, zs_ap, upd_ap, *]; done) | (simp_all [zpFirst, zgo, zcbi, zb, zs_ap, upd_ap]; done) | (simp only [zpFirst, zgo, zcbi, zb, zs_ap, upd_ap, Int32.le_iff_toInt_le, Int32.lt_iff_toInt_lt] at *; (repeat' split) <;> first | rfl | omega))⟩⟩
  · refine g_al0 r7_takesFirst_6 ?_
    refine g_k r7_takesFirst_7 ?_
    refine g_k r7_takesFirst_8 ?_
    refine g_eV2 r7_takesFirst_9 ok7_goes pl7_takesFirst pl7_goes xx_54 (Nat.le_of_ble_eq_true rfl) (ev7_goes (Or.inr rfl)) ?_
    exact g_zret r7_takesFirst_12 rfl (Or.inr rfl) ⟨rfl, ⟨zrt (by first | rfl | (simp [zpFirst, zgo, zcbi, zb, zs_ap, upd_ap, *]; done) | (simp_all [zpFirst, zgo, zcbi, zb, zs_ap, upd_ap]; done) | (simp only [zpFirst, zgo, zcbi, zb, zs_ap, upd_ap, Int32.le_iff_toInt_le, Int32.lt_iff_toInt_lt] at *; (repeat' split) <;> first | rfl | omega)), rfl, rfl, (by first | rfl | (simp [zpFirst, zgo, zcbi, zb, zs_ap, upd_ap, *]; done) | (simp_all [zpFirst, zgo, zcbi, zb, zs_ap, upd_ap]; done) | (simp only [zpFirst, zgo, zcbi, zb, zs_ap, upd_ap, Int32.le_iff_toInt_le, Int32.lt_iff_toInt_lt] at *; (repeat' split) <;> first | rfl | omega))⟩⟩
def zwh (K : zMI) (c : Int32) : Int32 := zb (¬ c < 48 ∧ ¬ (48 + K 54 25 - 1) < c)
def zpWhoA (K : zMI) (a : Nat) (c : Int32) : zMI := zs (zs (zs (zs (zs K 72 (upd (K 72) a (c - 48))) 73 (upd (K 73) a 0)) 74 (upd (K 74) a 0)) 75 (upd (K 75) a 0)) 76 (upd (K 76) a 0)
def zpWhose (K : zMI) (a : Nat) (c : Int32) : zMI := zgo (if zwh K c = 0 then K else zs (zpWhoA K a c) 54 (upd (K 54) 30 (K 54 30 + 1))) (zwh K c) 6
def zor (b x : Int32) : Int32 := if b = 0 then 0 else x
def zpNeedsR (K : zMI) (a : Nat) (c : Int32) : Int32 := if c = 62 then 1 else if c = 45 then zb (¬ K 73 a = 255) else zcbi (K 73 a) c
def zpNeeds (K : zMI) (a : Nat) (c : Int32) : zMI := if c = 62 then zgo K 1 9 else if c = 45 then zgo K (zb (¬ K 73 a = 255)) 7 else zs K 73 (upd (K 73) a (K 73 a ||| zor (zcbi (K 73 a) c) (zbit c)))
def zbi (x y c : Int32) : Int32 := zb ((0 < zbit c ∧ x < zbit c) ∧ y &&& zbit c = 0)
def zpBarsR (K : zMI) (a : Nat) (c : Int32) : Int32 := if c = 62 then zb (K 54 24 = 8) else zbi (K 74 a) (K 73 a) c
def zpBars (K : zMI) (a : Nat) (c : Int32) : zMI := if c = 62 then zgo K (zb (K 54 24 = 8)) 9 else zgo (zs K 74 (upd (K 74) a (K 74 a ||| zor (zbi (K 74 a) (K 73 a) c) (zbit c)))) (zbi (K 74 a) (K 73 a) c) 8
def znxR (K : zMI) (c : Int32) : Int32 := zb (c = 44 ∧ K 54 30 < 10)
def zpGivesR (K : zMI) (a : Nat) (c : Int32) : Int32 := if c = 45 then zb (¬ K 75 a = 255) else if c = 44 then (if 0 < K 75 a then znxR K c else 0) else zcbi (K 75 a) c
def zpGives (K : zMI) (a : Nat) (c : Int32) : zMI := if c = 45 then zgo K (zb (¬ K 75 a = 255)) 10 else if c = 44 then (if 0 < K 75 a then zgo K (znxR K c) 5 else K) else zs K 75 (upd (K 75) a (K 75 a ||| zor (zcbi (K 75 a) c) (zbit c)))
def zpTakesR (K : zMI) (a : Nat) (c : Int32) : Int32 := if c = 44 then (if K 54 24 = 11 then znxR K c else 0) else zbi (K 76 a) (K 75 a) c
def zpTakes (K : zMI) (a : Nat) (c : Int32) : zMI := if c = 44 then (if K 54 24 = 11 then zgo K (znxR K c) 5 else K) else zgo (zs K 76 (upd (K 76) a (K 76 a ||| zor (zbi (K 76 a) (K 75 a) c) (zbit c)))) (zbi (K 76 a) (K 75 a) c) 11
theorem zgo01 {b : Int32} (p : Prop) [Decidable p] (hb : b = zb p) : b = 0 ∨ b = 1 := hb ▸ zb_01 p
theorem ev7_takesWhose {w v e1 e2 : Nat} {h : Int64} {I : zMI} {c : Int32} {a : Nat} (ha : I 54 30 = nI a) (ha10 : a < 10) : zEr m7_takesWhose (zRR w v e1 e2) h I [.ref 54, .int c] (some (.int (zwh I c))) (zRR w v e1 e2) h (zpWhose I a c) := by
  refine zEp_of [.ref 54, .int c, .null] pl7_takesWhose (by decide +kernel) (fun _ _ => rfl) (fun _ _ => Nat.le_of_ble_eq_true rfl) ?_
  refine g_il1 r7_takesWhose_0 ?_
  refine g_k r7_takesWhose_1 ?_
  refine g_k r7_takesWhose_3 ?_
  refine g_al0 r7_takesWhose_5 ?_
  refine g_gfi r7_takesWhose_6 xx_54 rfl ?_
  refine g_iadd r7_takesWhose_9 ?_
  refine g_k r7_takesWhose_10 ?_
  refine g_isub r7_takesWhose_11 ?_
  refine g_eS3 r7_takesWhose_12 ok7_within pl7_takesWhose pl7_within (Nat.le_of_ble_eq_true rfl) (ev7_within) ?_
  refine g_is2 r7_takesWhose_15 rfl ?_
  refine g_il2 r7_takesWhose_16 ?_
  refine g_ifeqB r7_takesWhose_17 (fun h17 => ?_) (fun h17 => ?_)
  · refine g_al0 r7_takesWhose_83 ?_
    refine g_il2 r7_takesWhose_84 ?_
    refine g_k r7_takesWhose_85 ?_
    refine g_eV2 r7_takesWhose_87 ok7_goes pl7_takesWhose pl7_goes xx_54 (Nat.le_of_ble_eq_true rfl) (ev7_goes (zb_01 _)) ?_
    exact g_zret r7_takesWhose_90 rfl (zb_01 _) ⟨rfl, ⟨zrt (by first | rfl | (simp [zpWhose, zpWhoA, zgo, zwh, zb, zs_ap, upd_ap, *]; done) | (simp_all [zpWhose, zpWhoA, zgo, zwh, zb, zs_ap, upd_ap]; done) | (simp only [zpWhose, zpWhoA, zgo, zwh, zb, zs_ap, upd_ap, Int32.le_iff_toInt_le, Int32.lt_iff_toInt_lt] at *; (repeat' split) <;> first | rfl | omega)), rfl, rfl, (by first | rfl | (simp [zpWhose, zpWhoA, zgo, zwh, zb, zs_ap, upd_ap, *]; done) | (simp_all [zpWhose, zpWhoA, zgo, zwh, zb, zs_ap, upd_ap]; done) | (simp only [zpWhose, zpWhoA, zgo, zwh, zb, zs_ap, upd_ap, Int32.le_iff_toInt_le, Int32.lt_iff_toInt_lt] at *; (repeat' split) <;> first | rfl | omega))⟩⟩
  · refine g_al0 r7_takesWhose_20 ?_
    refine g_gfr r7_takesWhose_21 xx_54 rfl rr_54_31 ?_
    refine g_al0 r7_takesWhose_24 ?_
    refine g_gfi r7_takesWhose_25 xx_54 rfl ?_
    refine g_eqv (y := nI a) ha ?_
    refine g_il1 r7_takesWhose_28 ?_
    refine g_k r7_takesWhose_29 ?_
    refine g_isub r7_takesWhose_31 ?_
    refine g_iastN r7_takesWhose_32 xx_72 (by omega) (by decide) ?_
    refine g_al0 r7_takesWhose_33 ?_
    refine g_gfr r7_takesWhose_34 xx_54 rfl rr_54_32 ?_
    refine g_al0 r7_takesWhose_37 ?_
    refine g_gfi r7_takesWhose_38 xx_54 rfl ?_
    refine g_eqv (y := nI a) ha ?_
    refine g_k r7_takesWhose_41 ?_
    refine g_iastN r7_takesWhose_42 xx_73 (by omega) (by decide) ?_
    refine g_al0 r7_takesWhose_43 ?_
    refine g_gfr r7_takesWhose_44 xx_54 rfl rr_54_33 ?_
    refine g_al0 r7_takesWhose_47 ?_
    refine g_gfi r7_takesWhose_48 xx_54 rfl ?_
    refine g_eqv (y := nI a) ha ?_
    refine g_k r7_takesWhose_51 ?_
    refine g_iastN r7_takesWhose_52 xx_74 (by omega) (by decide) ?_
    refine g_al0 r7_takesWhose_53 ?_
    refine g_gfr r7_takesWhose_54 xx_54 rfl rr_54_34 ?_
    refine g_al0 r7_takesWhose_57 ?_
    refine g_gfi r7_takesWhose_58 xx_54 rfl ?_
    refine g_eqv (y := nI a) ha ?_
    refine g_k r7_takesWhose_61 ?_
    refine g_iastN r7_takesWhose_62 xx_75 (by omega) (by decide) ?_
    refine g_al0 r7_takesWhose_63 ?_
    refine g_gfr r7_takesWhose_64 xx_54 rfl rr_54_35 ?_
    refine g_al0 r7_takesWhose_67 ?_
    refine g_gfi r7_takesWhose_68 xx_54 rfl ?_
    refine g_eqv (y := nI a) ha ?_
    refine g_k r7_takesWhose_71 ?_
    refine g_iastN r7_takesWhose_72 xx_76 (by omega) (by decide) ?_
    refine g_al0 r7_takesWhose_73 ?_
    refine g_dup r7_takesWhose_74 rfl ?_
    refine g_gfi r7_takesWhose_75 xx_54 rfl ?_
    refine g_k r7_takesWhose_78 ?_
    refine g_iadd r7_takesWhose_79 ?_
    refine g_pfi r7_takesWhose_80 xx_54 rfl rfl ?_
    refine g_al0 r7_takesWhose_83 ?_
    refine g_il2 r7_takesWhose_84 ?_
    refine g_k r7_takesWhose_85 ?_
    refine g_eV2 r7_takesWhose_87 ok7_goes pl7_takesWhose pl7_goes xx_54 (Nat.le_of_ble_eq_true rfl) (ev7_goes (zb_01 _)) ?_
    exact g_zret r7_takesWhose_90 rfl (zb_01 _) ⟨rfl, ⟨zrt (by first | rfl | (simp [zpWhose, zpWhoA, zgo, zwh, zb, zs_ap, upd_ap, *]; done) | (simp_all [zpWhose, zpWhoA, zgo, zwh, zb, zs_ap, upd_ap]; done) | (simp only [zpWhose, zpWhoA, zgo, zwh, zb, zs_ap, upd_ap, Int32.le_iff_toInt_le, Int32.lt_iff_toInt_lt] at *; (repeat' split) <;> first | rfl | omega)), rfl, rfl, (by first | rfl | (simp [zpWhose, zpWhoA, zgo, zwh, zb, zs_ap, upd_ap, *]; done) | (simp_all [zpWhose, zpWhoA, zgo, zwh, zb, zs_ap, upd_ap]; done) | (simp only [zpWhose, zpWhoA, zgo, zwh, zb, zs_ap, upd_ap, Int32.le_iff_toInt_le, Int32.lt_iff_toInt_lt] at *; (repeat' split) <;> first | rfl | omega))⟩⟩
theorem ev7_takesNeeds {w v e1 e2 : Nat} {h : Int64} {I : zMI} {c : Int32} {a : Nat} (ha : I 54 30 = nI (a + 1)) (ha10 : a < 10) : zEr m7_takesNeeds (zRR w v e1 e2) h I [.ref 54, .int c] (some (.int (zpNeedsR I a c))) (zRR w v e1 e2) h (zpNeeds I a c) := by
  refine zEp_of [.ref 54, .int c, .null, .null] pl7_takesNeeds (by decide +kernel) (fun _ _ => rfl) (fun _ _ => Nat.le_of_ble_eq_true rfl) ?_
  refine g_al0 r7_takesNeeds_0 ?_
  refine g_gfi r7_takesNeeds_1 xx_54 rfl ?_
  refine g_k r7_takesNeeds_4 ?_
  refine g_isub r7_takesNeeds_5 ?_
  rw [ha, nI_pred]
  refine g_is2 r7_takesNeeds_6 rfl ?_
  refine g_il1 r7_takesNeeds_7 ?_
  refine g_k r7_takesNeeds_8 ?_
  refine g_icne r7_takesNeeds_10 (fun h10 => ?_) (fun h10 => ?_)
  · refine g_il1 r7_takesNeeds_21 ?_
    refine g_k r7_takesNeeds_22 ?_
    refine g_icne r7_takesNeeds_24 (fun h24 => ?_) (fun h24 => ?_)
    · refine g_al0 r7_takesNeeds_51 ?_
      refine g_gfr r7_takesNeeds_52 xx_54 rfl rr_54_32 ?_
      refine g_il2 r7_takesNeeds_55 ?_
      refine g_ialdN r7_takesNeeds_56 xx_73 (by omega) (by decide) ?_
      refine g_il1 r7_takesNeeds_57 ?_
      refine g_eS2 r7_takesNeeds_58 ok7_comesBehind pl7_takesNeeds pl7_comesBehind (Nat.le_of_ble_eq_true rfl) (ev7_comesBehind) ?_
      refine g_is3 r7_takesNeeds_61 rfl ?_
      refine g_al0 r7_takesNeeds_62 ?_
      refine g_gfr r7_takesNeeds_63 xx_54 rfl rr_54_32 ?_
      refine g_il2 r7_takesNeeds_66 ?_
      refine g_dup2 r7_takesNeeds_67 rfl rfl ?_
      refine g_ialdN r7_takesNeeds_68 xx_73 (by omega) (by decide) ?_
      refine g_il3 r7_takesNeeds_69 ?_
      refine g_ifeqB r7_takesNeeds_70 (fun h70 => ?_) (fun h70 => ?_)
      · refine g_k r7_takesNeeds_80 ?_
        refine g_ior r7_takesNeeds_81 ?_
        refine g_iastN r7_takesNeeds_82 xx_73 (by omega) (by decide) ?_
        refine g_il3 r7_takesNeeds_83 ?_
        exact g_zret r7_takesNeeds_84 rfl (zb_01 _) ⟨rfl, ⟨zrt (by first | rfl | (simp [zpNeeds, zpNeedsR, zgo, zcbi, zor, zb, zs_ap, upd_ap, *]; done) | (simp_all [zpNeeds, zpNeedsR, zgo, zcbi, zor, zb, zs_ap, upd_ap]; done) | (simp only [zpNeeds, zpNeedsR, zgo, zcbi, zor, zb, zs_ap, upd_ap, Int32.le_iff_toInt_le, Int32.lt_iff_toInt_lt] at *; (repeat' split) <;> first | rfl | omega)), rfl, rfl, (by first | rfl | (simp [zpNeeds, zpNeedsR, zgo, zcbi, zor, zb, zs_ap, upd_ap, *]; done) | (simp_all [zpNeeds, zpNeedsR, zgo, zcbi, zor, zb, zs_ap, upd_ap]; done) | (simp only [zpNeeds, zpNeedsR, zgo, zcbi, zor, zb, zs_ap, upd_ap, Int32.le_iff_toInt_le, Int32.lt_iff_toInt_lt] at *; (repeat' split) <;> first | rfl | omega))⟩⟩
      · refine g_il1 r7_takesNeeds_73 ?_
        refine g_eS1 r7_takesNeeds_74 ok7_bitOf pl7_takesNeeds pl7_bitOf (Nat.le_of_ble_eq_true rfl) (ev7_bitOf) ?_
        refine g_goto r7_takesNeeds_77 ?_
        refine g_ior r7_takesNeeds_81 ?_
        refine g_iastN r7_takesNeeds_82 xx_73 (by omega) (by decide) ?_
        refine g_il3 r7_takesNeeds_83 ?_
        exact g_zret r7_takesNeeds_84 rfl (zb_01 _) ⟨rfl, ⟨zrt (by first | rfl | (simp [zpNeeds, zpNeedsR, zgo, zcbi, zor, zb, zs_ap, upd_ap, *]; done) | (simp_all [zpNeeds, zpNeedsR, zgo, zcbi, zor, zb, zs_ap, upd_ap]; done) | (simp only [zpNeeds, zpNeedsR, zgo, zcbi, zor, zb, zs_ap, upd_ap, Int32.le_iff_toInt_le, Int32.lt_iff_toInt_lt] at *; (repeat' split) <;> first | rfl | omega)), rfl, rfl, (by first | rfl | (simp [zpNeeds, zpNeedsR, zgo, zcbi, zor, zb, zs_ap, upd_ap, *]; done) | (simp_all [zpNeeds, zpNeedsR, zgo, zcbi, zor, zb, zs_ap, upd_ap]; done) | (simp only [zpNeeds, zpNeedsR, zgo, zcbi, zor, zb, zs_ap, upd_ap, Int32.le_iff_toInt_le, Int32.lt_iff_toInt_lt] at *; (repeat' split) <;> first | rfl | omega))⟩⟩
    · refine g_al0 r7_takesNeeds_27 ?_
      refine g_al0 r7_takesNeeds_28 ?_
      refine g_gfr r7_takesNeeds_29 xx_54 rfl rr_54_32 ?_
      refine g_il2 r7_takesNeeds_32 ?_
      refine g_ialdN r7_takesNeeds_33 xx_73 (by omega) (by decide) ?_
      refine g_k r7_takesNeeds_34 ?_
      refine g_iceq r7_takesNeeds_37 (fun h37 => ?_) (fun h37 => ?_)
      · refine g_k r7_takesNeeds_44 ?_
        refine g_k r7_takesNeeds_45 ?_
        refine g_eV2 r7_takesNeeds_47 ok7_goes pl7_takesNeeds pl7_goes xx_54 (Nat.le_of_ble_eq_true rfl) (ev7_goes (Or.inl rfl)) ?_
        exact g_zret r7_takesNeeds_50 rfl (Or.inl rfl) ⟨rfl, ⟨zrt (by first | rfl | (simp [zpNeeds, zpNeedsR, zgo, zcbi, zor, zb, zs_ap, upd_ap, *]; done) | (simp_all [zpNeeds, zpNeedsR, zgo, zcbi, zor, zb, zs_ap, upd_ap]; done) | (simp only [zpNeeds, zpNeedsR, zgo, zcbi, zor, zb, zs_ap, upd_ap, Int32.le_iff_toInt_le, Int32.lt_iff_toInt_lt] at *; (repeat' split) <;> first | rfl | omega)), rfl, rfl, (by first | rfl | (simp [zpNeeds, zpNeedsR, zgo, zcbi, zor, zb, zs_ap, upd_ap, *]; done) | (simp_all [zpNeeds, zpNeedsR, zgo, zcbi, zor, zb, zs_ap, upd_ap]; done) | (simp only [zpNeeds, zpNeedsR, zgo, zcbi, zor, zb, zs_ap, upd_ap, Int32.le_iff_toInt_le, Int32.lt_iff_toInt_lt] at *; (repeat' split) <;> first | rfl | omega))⟩⟩
      · refine g_k r7_takesNeeds_40 ?_
        refine g_goto r7_takesNeeds_41 ?_
        refine g_k r7_takesNeeds_45 ?_
        refine g_eV2 r7_takesNeeds_47 ok7_goes pl7_takesNeeds pl7_goes xx_54 (Nat.le_of_ble_eq_true rfl) (ev7_goes (Or.inr rfl)) ?_
        exact g_zret r7_takesNeeds_50 rfl (Or.inr rfl) ⟨rfl, ⟨zrt (by first | rfl | (simp [zpNeeds, zpNeedsR, zgo, zcbi, zor, zb, zs_ap, upd_ap, *]; done) | (simp_all [zpNeeds, zpNeedsR, zgo, zcbi, zor, zb, zs_ap, upd_ap]; done) | (simp only [zpNeeds, zpNeedsR, zgo, zcbi, zor, zb, zs_ap, upd_ap, Int32.le_iff_toInt_le, Int32.lt_iff_toInt_lt] at *; (repeat' split) <;> first | rfl | omega)), rfl, rfl, (by first | rfl | (simp [zpNeeds, zpNeedsR, zgo, zcbi, zor, zb, zs_ap, upd_ap, *]; done) | (simp_all [zpNeeds, zpNeedsR, zgo, zcbi, zor, zb, zs_ap, upd_ap]; done) | (simp only [zpNeeds, zpNeedsR, zgo, zcbi, zor, zb, zs_ap, upd_ap, Int32.le_iff_toInt_le, Int32.lt_iff_toInt_lt] at *; (repeat' split) <;> first | rfl | omega))⟩⟩
  · refine g_al0 r7_takesNeeds_13 ?_
    refine g_k r7_takesNeeds_14 ?_
    refine g_k r7_takesNeeds_15 ?_
    refine g_eV2 r7_takesNeeds_17 ok7_goes pl7_takesNeeds pl7_goes xx_54 (Nat.le_of_ble_eq_true rfl) (ev7_goes (Or.inr rfl)) ?_
    exact g_zret r7_takesNeeds_20 rfl (Or.inr rfl) ⟨rfl, ⟨zrt (by first | rfl | (simp [zpNeeds, zpNeedsR, zgo, zcbi, zor, zb, zs_ap, upd_ap, *]; done) | (simp_all [zpNeeds, zpNeedsR, zgo, zcbi, zor, zb, zs_ap, upd_ap]; done) | (simp only [zpNeeds, zpNeedsR, zgo, zcbi, zor, zb, zs_ap, upd_ap, Int32.le_iff_toInt_le, Int32.lt_iff_toInt_lt] at *; (repeat' split) <;> first | rfl | omega)), rfl, rfl, (by first | rfl | (simp [zpNeeds, zpNeedsR, zgo, zcbi, zor, zb, zs_ap, upd_ap, *]; done) | (simp_all [zpNeeds, zpNeedsR, zgo, zcbi, zor, zb, zs_ap, upd_ap]; done) | (simp only [zpNeeds, zpNeedsR, zgo, zcbi, zor, zb, zs_ap, upd_ap, Int32.le_iff_toInt_le, Int32.lt_iff_toInt_lt] at *; (repeat' split) <;> first | rfl | omega))⟩⟩
theorem ev7_takesNext {w v e1 e2 : Nat} {h : Int64} {I : zMI} {c : Int32} : zEr m7_takesNext (zRR w v e1 e2) h I [.ref 54, .int c] (some (.int (znxR I c))) (zRR w v e1 e2) h (zgo I (znxR I c) 5) := by
  refine zEp_of [.ref 54, .int c] pl7_takesNext (by decide +kernel) (fun _ _ => rfl) (fun _ _ => Nat.le_of_ble_eq_true rfl) ?_
  refine g_al0 r7_takesNext_0 ?_
  refine g_il1 r7_takesNext_1 ?_
  refine g_k r7_takesNext_2 ?_
  refine g_icne r7_takesNext_4 (fun h4 => ?_) (fun h4 => ?_)
  · refine g_k r7_takesNext_20 ?_
    refine g_k r7_takesNext_21 ?_
    refine g_eV2 r7_takesNext_22 ok7_goes pl7_takesNext pl7_goes xx_54 (Nat.le_of_ble_eq_true rfl) (ev7_goes (Or.inl rfl)) ?_
    exact g_zret r7_takesNext_25 rfl (Or.inl rfl) ⟨rfl, ⟨zrt (by first | rfl | (simp [znxR, zgo, zb, zs_ap, upd_ap, *]; done) | (simp_all [znxR, zgo, zb, zs_ap, upd_ap]; done) | (simp only [znxR, zgo, zb, zs_ap, upd_ap, Int32.le_iff_toInt_le, Int32.lt_iff_toInt_lt] at *; (repeat' split) <;> first | rfl | omega)), rfl, rfl, (by first | rfl | (simp [znxR, zgo, zb, zs_ap, upd_ap, *]; done) | (simp_all [znxR, zgo, zb, zs_ap, upd_ap]; done) | (simp only [znxR, zgo, zb, zs_ap, upd_ap, Int32.le_iff_toInt_le, Int32.lt_iff_toInt_lt] at *; (repeat' split) <;> first | rfl | omega))⟩⟩
  · refine g_al0 r7_takesNext_7 ?_
    refine g_gfi r7_takesNext_8 xx_54 rfl ?_
    refine g_k r7_takesNext_11 ?_
    refine g_icgeL r7_takesNext_13 (fun h13 => ?_) (fun h13 => ?_)
    · refine g_k r7_takesNext_20 ?_
      refine g_k r7_takesNext_21 ?_
      refine g_eV2 r7_takesNext_22 ok7_goes pl7_takesNext pl7_goes xx_54 (Nat.le_of_ble_eq_true rfl) (ev7_goes (Or.inl rfl)) ?_
      exact g_zret r7_takesNext_25 rfl (Or.inl rfl) ⟨rfl, ⟨zrt (by first | rfl | (simp [znxR, zgo, zb, zs_ap, upd_ap, *]; done) | (simp_all [znxR, zgo, zb, zs_ap, upd_ap]; done) | (simp only [znxR, zgo, zb, zs_ap, upd_ap, Int32.le_iff_toInt_le, Int32.lt_iff_toInt_lt] at *; (repeat' split) <;> first | rfl | omega)), rfl, rfl, (by first | rfl | (simp [znxR, zgo, zb, zs_ap, upd_ap, *]; done) | (simp_all [znxR, zgo, zb, zs_ap, upd_ap]; done) | (simp only [znxR, zgo, zb, zs_ap, upd_ap, Int32.le_iff_toInt_le, Int32.lt_iff_toInt_lt] at *; (repeat' split) <;> first | rfl | omega))⟩⟩
    · refine g_k r7_takesNext_16 ?_
      refine g_goto r7_takesNext_17 ?_
      refine g_k r7_takesNext_21 ?_
      refine g_eV2 r7_takesNext_22 ok7_goes pl7_takesNext pl7_goes xx_54 (Nat.le_of_ble_eq_true rfl) (ev7_goes (Or.inr rfl)) ?_
      exact g_zret r7_takesNext_25 rfl (Or.inr rfl) ⟨rfl, ⟨zrt (by first | rfl | (simp [znxR, zgo, zb, zs_ap, upd_ap, *]; done) | (simp_all [znxR, zgo, zb, zs_ap, upd_ap]; done) | (simp only [znxR, zgo, zb, zs_ap, upd_ap, Int32.le_iff_toInt_le, Int32.lt_iff_toInt_lt] at *; (repeat' split) <;> first | rfl | omega)), rfl, rfl, (by first | rfl | (simp [znxR, zgo, zb, zs_ap, upd_ap, *]; done) | (simp_all [znxR, zgo, zb, zs_ap, upd_ap]; done) | (simp only [znxR, zgo, zb, zs_ap, upd_ap, Int32.le_iff_toInt_le, Int32.lt_iff_toInt_lt] at *; (repeat' split) <;> first | rfl | omega))⟩⟩
theorem ev7_takesBars {w v e1 e2 : Nat} {h : Int64} {I : zMI} {c : Int32} {a : Nat} (ha : I 54 30 = nI (a + 1)) (ha10 : a < 10) : zEr m7_takesBars (zRR w v e1 e2) h I [.ref 54, .int c] (some (.int (zpBarsR I a c))) (zRR w v e1 e2) h (zpBars I a c) := by
  refine zEp_of [.ref 54, .int c, .null, .null] pl7_takesBars (by decide +kernel) (fun _ _ => rfl) (fun _ _ => Nat.le_of_ble_eq_true rfl) ?_
  refine g_al0 r7_takesBars_0 ?_
  refine g_gfi r7_takesBars_1 xx_54 rfl ?_
  refine g_k r7_takesBars_4 ?_
  refine g_isub r7_takesBars_5 ?_
  rw [ha, nI_pred]
  refine g_is2 r7_takesBars_6 rfl ?_
  refine g_il1 r7_takesBars_7 ?_
  refine g_k r7_takesBars_8 ?_
  refine g_icne r7_takesBars_10 (fun h10 => ?_) (fun h10 => ?_)
  · refine g_al0 r7_takesBars_34 ?_
    refine g_gfr r7_takesBars_35 xx_54 rfl rr_54_33 ?_
    refine g_il2 r7_takesBars_38 ?_
    refine g_ialdN r7_takesBars_39 xx_74 (by omega) (by decide) ?_
    refine g_il1 r7_takesBars_40 ?_
    refine g_eS2 r7_takesBars_41 ok7_comesBehind pl7_takesBars pl7_comesBehind (Nat.le_of_ble_eq_true rfl) (ev7_comesBehind) ?_
    refine g_ifeqB r7_takesBars_44 (fun h44 => ?_) (fun h44 => ?_)
    · refine g_k r7_takesBars_65 ?_
      refine g_is3 r7_takesBars_66 rfl ?_
      refine g_al0 r7_takesBars_67 ?_
      refine g_gfr r7_takesBars_68 xx_54 rfl rr_54_33 ?_
      refine g_il2 r7_takesBars_71 ?_
      refine g_dup2 r7_takesBars_72 rfl rfl ?_
      refine g_ialdN r7_takesBars_73 xx_74 (by omega) (by decide) ?_
      refine g_il3 r7_takesBars_74 ?_
      refine g_ifeq r7_takesBars_75 (fun _ => ?_) (fun hc => absurd rfl hc)
      refine g_k r7_takesBars_85 ?_
      refine g_ior r7_takesBars_86 ?_
      refine g_iastN r7_takesBars_87 xx_74 (by omega) (by decide) ?_
      refine g_al0 r7_takesBars_88 ?_
      refine g_il3 r7_takesBars_89 ?_
      refine g_k r7_takesBars_90 ?_
      refine g_eV2 r7_takesBars_92 ok7_goes pl7_takesBars pl7_goes xx_54 (Nat.le_of_ble_eq_true rfl) (ev7_goes (Or.inl rfl)) ?_
      exact g_zret r7_takesBars_95 rfl (Or.inl rfl) ⟨rfl, ⟨zrt (by first | rfl | (simp [zpBars, zpBarsR, zgo, zcbi, zor, zbi, zb, zs_ap, upd_ap, *]; done) | (simp_all [zpBars, zpBarsR, zgo, zcbi, zor, zbi, zb, zs_ap, upd_ap]; done) | (simp only [zpBars, zpBarsR, zgo, zcbi, zor, zbi, zb, zs_ap, upd_ap, Int32.le_iff_toInt_le, Int32.lt_iff_toInt_lt] at *; (repeat' split) <;> first | rfl | omega)), rfl, rfl, (by first | rfl | (simp [zpBars, zpBarsR, zgo, zcbi, zor, zbi, zb, zs_ap, upd_ap, *]; done) | (simp_all [zpBars, zpBarsR, zgo, zcbi, zor, zbi, zb, zs_ap, upd_ap]; done) | (simp only [zpBars, zpBarsR, zgo, zcbi, zor, zbi, zb, zs_ap, upd_ap, Int32.le_iff_toInt_le, Int32.lt_iff_toInt_lt] at *; (repeat' split) <;> first | rfl | omega))⟩⟩
    · refine g_al0 r7_takesBars_47 ?_
      refine g_gfr r7_takesBars_48 xx_54 rfl rr_54_32 ?_
      refine g_il2 r7_takesBars_51 ?_
      refine g_ialdN r7_takesBars_52 xx_73 (by omega) (by decide) ?_
      refine g_il1 r7_takesBars_53 ?_
      refine g_eS1 r7_takesBars_54 ok7_bitOf pl7_takesBars pl7_bitOf (Nat.le_of_ble_eq_true rfl) (ev7_bitOf) ?_
      refine g_iand r7_takesBars_57 ?_
      refine g_ifne r7_takesBars_58 (fun h58 => ?_) (fun h58 => ?_)
      · refine g_k r7_takesBars_65 ?_
        refine g_is3 r7_takesBars_66 rfl ?_
        refine g_al0 r7_takesBars_67 ?_
        refine g_gfr r7_takesBars_68 xx_54 rfl rr_54_33 ?_
        refine g_il2 r7_takesBars_71 ?_
        refine g_dup2 r7_takesBars_72 rfl rfl ?_
        refine g_ialdN r7_takesBars_73 xx_74 (by omega) (by decide) ?_
        refine g_il3 r7_takesBars_74 ?_
        refine g_ifeq r7_takesBars_75 (fun _ => ?_) (fun hc => absurd rfl hc)
        refine g_k r7_takesBars_85 ?_
        refine g_ior r7_takesBars_86 ?_
        refine g_iastN r7_takesBars_87 xx_74 (by omega) (by decide) ?_
        refine g_al0 r7_takesBars_88 ?_
        refine g_il3 r7_takesBars_89 ?_
        refine g_k r7_takesBars_90 ?_
        refine g_eV2 r7_takesBars_92 ok7_goes pl7_takesBars pl7_goes xx_54 (Nat.le_of_ble_eq_true rfl) (ev7_goes (Or.inl rfl)) ?_
        exact g_zret r7_takesBars_95 rfl (Or.inl rfl) ⟨rfl, ⟨zrt (by first | rfl | (simp [zpBars, zpBarsR, zgo, zcbi, zor, zbi, zb, zs_ap, upd_ap, *]; done) | (simp_all [zpBars, zpBarsR, zgo, zcbi, zor, zbi, zb, zs_ap, upd_ap]; done) | (simp only [zpBars, zpBarsR, zgo, zcbi, zor, zbi, zb, zs_ap, upd_ap, Int32.le_iff_toInt_le, Int32.lt_iff_toInt_lt] at *; (repeat' split) <;> first | rfl | omega)), rfl, rfl, (by first | rfl | (simp [zpBars, zpBarsR, zgo, zcbi, zor, zbi, zb, zs_ap, upd_ap, *]; done) | (simp_all [zpBars, zpBarsR, zgo, zcbi, zor, zbi, zb, zs_ap, upd_ap]; done) | (simp only [zpBars, zpBarsR, zgo, zcbi, zor, zbi, zb, zs_ap, upd_ap, Int32.le_iff_toInt_le, Int32.lt_iff_toInt_lt] at *; (repeat' split) <;> first | rfl | omega))⟩⟩
      · refine g_k r7_takesBars_61 ?_
        refine g_goto r7_takesBars_62 ?_
        refine g_is3 r7_takesBars_66 rfl ?_
        refine g_al0 r7_takesBars_67 ?_
        refine g_gfr r7_takesBars_68 xx_54 rfl rr_54_33 ?_
        refine g_il2 r7_takesBars_71 ?_
        refine g_dup2 r7_takesBars_72 rfl rfl ?_
        refine g_ialdN r7_takesBars_73 xx_74 (by omega) (by decide) ?_
        refine g_il3 r7_takesBars_74 ?_
        refine g_ifeq r7_takesBars_75 (fun hc => absurd hc (by decide)) (fun _ => ?_)
        refine g_il1 r7_takesBars_78 ?_
        refine g_eS1 r7_takesBars_79 ok7_bitOf pl7_takesBars pl7_bitOf (Nat.le_of_ble_eq_true rfl) (ev7_bitOf) ?_
        refine g_goto r7_takesBars_82 ?_
        refine g_ior r7_takesBars_86 ?_
        refine g_iastN r7_takesBars_87 xx_74 (by omega) (by decide) ?_
        refine g_al0 r7_takesBars_88 ?_
        refine g_il3 r7_takesBars_89 ?_
        refine g_k r7_takesBars_90 ?_
        refine g_eV2 r7_takesBars_92 ok7_goes pl7_takesBars pl7_goes xx_54 (Nat.le_of_ble_eq_true rfl) (ev7_goes (Or.inr rfl)) ?_
        exact g_zret r7_takesBars_95 rfl (Or.inr rfl) ⟨rfl, ⟨zrt (by first | rfl | (simp [zpBars, zpBarsR, zgo, zcbi, zor, zbi, zb, zs_ap, upd_ap, *]; done) | (simp_all [zpBars, zpBarsR, zgo, zcbi, zor, zbi, zb, zs_ap, upd_ap]; done) | (simp only [zpBars, zpBarsR, zgo, zcbi, zor, zbi, zb, zs_ap, upd_ap, Int32.le_iff_toInt_le, Int32.lt_iff_toInt_lt] at *; (repeat' split) <;> first | rfl | omega)), rfl, rfl, (by first | rfl | (simp [zpBars, zpBarsR, zgo, zcbi, zor, zbi, zb, zs_ap, upd_ap, *]; done) | (simp_all [zpBars, zpBarsR, zgo, zcbi, zor, zbi, zb, zs_ap, upd_ap]; done) | (simp only [zpBars, zpBarsR, zgo, zcbi, zor, zbi, zb, zs_ap, upd_ap, Int32.le_iff_toInt_le, Int32.lt_iff_toInt_lt] at *; (repeat' split) <;> first | rfl | omega))⟩⟩
  · refine g_al0 r7_takesBars_13 ?_
    refine g_al0 r7_takesBars_14 ?_
    refine g_gfi r7_takesBars_15 xx_54 rfl ?_
    refine g_k r7_takesBars_18 ?_
    refine g_icne r7_takesBars_20 (fun h20 => ?_) (fun h20 => ?_)
    · refine g_k r7_takesBars_27 ?_
      refine g_k r7_takesBars_28 ?_
      refine g_eV2 r7_takesBars_30 ok7_goes pl7_takesBars pl7_goes xx_54 (Nat.le_of_ble_eq_true rfl) (ev7_goes (Or.inl rfl)) ?_
      exact g_zret r7_takesBars_33 rfl (Or.inl rfl) ⟨rfl, ⟨zrt (by first | rfl | (simp [zpBars, zpBarsR, zgo, zcbi, zor, zbi, zb, zs_ap, upd_ap, *]; done) | (simp_all [zpBars, zpBarsR, zgo, zcbi, zor, zbi, zb, zs_ap, upd_ap]; done) | (simp only [zpBars, zpBarsR, zgo, zcbi, zor, zbi, zb, zs_ap, upd_ap, Int32.le_iff_toInt_le, Int32.lt_iff_toInt_lt] at *; (repeat' split) <;> first | rfl | omega)), rfl, rfl, (by first | rfl | (simp [zpBars, zpBarsR, zgo, zcbi, zor, zbi, zb, zs_ap, upd_ap, *]; done) | (simp_all [zpBars, zpBarsR, zgo, zcbi, zor, zbi, zb, zs_ap, upd_ap]; done) | (simp only [zpBars, zpBarsR, zgo, zcbi, zor, zbi, zb, zs_ap, upd_ap, Int32.le_iff_toInt_le, Int32.lt_iff_toInt_lt] at *; (repeat' split) <;> first | rfl | omega))⟩⟩
    · refine g_k r7_takesBars_23 ?_
      refine g_goto r7_takesBars_24 ?_
      refine g_k r7_takesBars_28 ?_
      refine g_eV2 r7_takesBars_30 ok7_goes pl7_takesBars pl7_goes xx_54 (Nat.le_of_ble_eq_true rfl) (ev7_goes (Or.inr rfl)) ?_
      exact g_zret r7_takesBars_33 rfl (Or.inr rfl) ⟨rfl, ⟨zrt (by first | rfl | (simp [zpBars, zpBarsR, zgo, zcbi, zor, zbi, zb, zs_ap, upd_ap, *]; done) | (simp_all [zpBars, zpBarsR, zgo, zcbi, zor, zbi, zb, zs_ap, upd_ap]; done) | (simp only [zpBars, zpBarsR, zgo, zcbi, zor, zbi, zb, zs_ap, upd_ap, Int32.le_iff_toInt_le, Int32.lt_iff_toInt_lt] at *; (repeat' split) <;> first | rfl | omega)), rfl, rfl, (by first | rfl | (simp [zpBars, zpBarsR, zgo, zcbi, zor, zbi, zb, zs_ap, upd_ap, *]; done) | (simp_all [zpBars, zpBarsR, zgo, zcbi, zor, zbi, zb, zs_ap, upd_ap]; done) | (simp only [zpBars, zpBarsR, zgo, zcbi, zor, zbi, zb, zs_ap, upd_ap, Int32.le_iff_toInt_le, Int32.lt_iff_toInt_lt] at *; (repeat' split) <;> first | rfl | omega))⟩⟩
theorem ev7_takesGives {w v e1 e2 : Nat} {h : Int64} {I : zMI} {c : Int32} {a : Nat} (ha : I 54 30 = nI (a + 1)) (ha10 : a < 10) : zEr m7_takesGives (zRR w v e1 e2) h I [.ref 54, .int c] (some (.int (zpGivesR I a c))) (zRR w v e1 e2) h (zpGives I a c) := by
  refine zEp_of [.ref 54, .int c, .null, .null] pl7_takesGives (by decide +kernel) (fun _ _ => rfl) (fun _ _ => Nat.le_of_ble_eq_true rfl) ?_
  refine g_al0 r7_takesGives_0 ?_
  refine g_gfi r7_takesGives_1 xx_54 rfl ?_
  refine g_k r7_takesGives_4 ?_
  refine g_isub r7_takesGives_5 ?_
  rw [ha, nI_pred]
  refine g_is2 r7_takesGives_6 rfl ?_
  refine g_il1 r7_takesGives_7 ?_
  refine g_k r7_takesGives_8 ?_
  refine g_icne r7_takesGives_10 (fun h10 => ?_) (fun h10 => ?_)
  · refine g_il1 r7_takesGives_37 ?_
    refine g_k r7_takesGives_38 ?_
    refine g_icne r7_takesGives_40 (fun h40 => ?_) (fun h40 => ?_)
    · refine g_al0 r7_takesGives_66 ?_
      refine g_gfr r7_takesGives_67 xx_54 rfl rr_54_34 ?_
      refine g_il2 r7_takesGives_70 ?_
      refine g_ialdN r7_takesGives_71 xx_75 (by omega) (by decide) ?_
      refine g_il1 r7_takesGives_72 ?_
      refine g_eS2 r7_takesGives_73 ok7_comesBehind pl7_takesGives pl7_comesBehind (Nat.le_of_ble_eq_true rfl) (ev7_comesBehind) ?_
      refine g_is3 r7_takesGives_76 rfl ?_
      refine g_al0 r7_takesGives_77 ?_
      refine g_gfr r7_takesGives_78 xx_54 rfl rr_54_34 ?_
      refine g_il2 r7_takesGives_81 ?_
      refine g_dup2 r7_takesGives_82 rfl rfl ?_
      refine g_ialdN r7_takesGives_83 xx_75 (by omega) (by decide) ?_
      refine g_il3 r7_takesGives_84 ?_
      refine g_ifeqB r7_takesGives_85 (fun h85 => ?_) (fun h85 => ?_)
      · refine g_k r7_takesGives_95 ?_
        refine g_ior r7_takesGives_96 ?_
        refine g_iastN r7_takesGives_97 xx_75 (by omega) (by decide) ?_
        refine g_il3 r7_takesGives_98 ?_
        exact g_zret r7_takesGives_99 rfl (zb_01 _) ⟨rfl, ⟨zrt (by first | rfl | (simp [zpGives, zpGivesR, zgo, zcbi, zor, znxR, zb, zs_ap, upd_ap, *]; done) | (simp_all [zpGives, zpGivesR, zgo, zcbi, zor, znxR, zb, zs_ap, upd_ap]; done) | (simp only [zpGives, zpGivesR, zgo, zcbi, zor, znxR, zb, zs_ap, upd_ap, Int32.le_iff_toInt_le, Int32.lt_iff_toInt_lt] at *; (repeat' split) <;> first | rfl | omega)), rfl, rfl, (by first | rfl | (simp [zpGives, zpGivesR, zgo, zcbi, zor, znxR, zb, zs_ap, upd_ap, *]; done) | (simp_all [zpGives, zpGivesR, zgo, zcbi, zor, znxR, zb, zs_ap, upd_ap]; done) | (simp only [zpGives, zpGivesR, zgo, zcbi, zor, znxR, zb, zs_ap, upd_ap, Int32.le_iff_toInt_le, Int32.lt_iff_toInt_lt] at *; (repeat' split) <;> first | rfl | omega))⟩⟩
      · refine g_il1 r7_takesGives_88 ?_
        refine g_eS1 r7_takesGives_89 ok7_bitOf pl7_takesGives pl7_bitOf (Nat.le_of_ble_eq_true rfl) (ev7_bitOf) ?_
        refine g_goto r7_takesGives_92 ?_
        refine g_ior r7_takesGives_96 ?_
        refine g_iastN r7_takesGives_97 xx_75 (by omega) (by decide) ?_
        refine g_il3 r7_takesGives_98 ?_
        exact g_zret r7_takesGives_99 rfl (zb_01 _) ⟨rfl, ⟨zrt (by first | rfl | (simp [zpGives, zpGivesR, zgo, zcbi, zor, znxR, zb, zs_ap, upd_ap, *]; done) | (simp_all [zpGives, zpGivesR, zgo, zcbi, zor, znxR, zb, zs_ap, upd_ap]; done) | (simp only [zpGives, zpGivesR, zgo, zcbi, zor, znxR, zb, zs_ap, upd_ap, Int32.le_iff_toInt_le, Int32.lt_iff_toInt_lt] at *; (repeat' split) <;> first | rfl | omega)), rfl, rfl, (by first | rfl | (simp [zpGives, zpGivesR, zgo, zcbi, zor, znxR, zb, zs_ap, upd_ap, *]; done) | (simp_all [zpGives, zpGivesR, zgo, zcbi, zor, znxR, zb, zs_ap, upd_ap]; done) | (simp only [zpGives, zpGivesR, zgo, zcbi, zor, znxR, zb, zs_ap, upd_ap, Int32.le_iff_toInt_le, Int32.lt_iff_toInt_lt] at *; (repeat' split) <;> first | rfl | omega))⟩⟩
    · refine g_al0 r7_takesGives_43 ?_
      refine g_gfr r7_takesGives_44 xx_54 rfl rr_54_34 ?_
      refine g_il2 r7_takesGives_47 ?_
      refine g_ialdN r7_takesGives_48 xx_75 (by omega) (by decide) ?_
      refine g_ifleL r7_takesGives_49 (fun h49 => ?_) (fun h49 => ?_)
      · refine g_k r7_takesGives_64 ?_
        exact g_zret r7_takesGives_65 rfl (Or.inl rfl) ⟨rfl, ⟨zrt (by first | rfl | (simp [zpGives, zpGivesR, zgo, zcbi, zor, znxR, zb, zs_ap, upd_ap, *]; done) | (simp_all [zpGives, zpGivesR, zgo, zcbi, zor, znxR, zb, zs_ap, upd_ap]; done) | (simp only [zpGives, zpGivesR, zgo, zcbi, zor, znxR, zb, zs_ap, upd_ap, Int32.le_iff_toInt_le, Int32.lt_iff_toInt_lt] at *; (repeat' split) <;> first | rfl | omega)), rfl, rfl, (by first | rfl | (simp [zpGives, zpGivesR, zgo, zcbi, zor, znxR, zb, zs_ap, upd_ap, *]; done) | (simp_all [zpGives, zpGivesR, zgo, zcbi, zor, znxR, zb, zs_ap, upd_ap]; done) | (simp only [zpGives, zpGivesR, zgo, zcbi, zor, znxR, zb, zs_ap, upd_ap, Int32.le_iff_toInt_le, Int32.lt_iff_toInt_lt] at *; (repeat' split) <;> first | rfl | omega))⟩⟩
      · refine g_al0 r7_takesGives_52 ?_
        refine g_il1 r7_takesGives_53 ?_
        refine g_eV1 r7_takesGives_54 ok7_takesNext pl7_takesGives pl7_takesNext xx_54 (Nat.le_of_ble_eq_true rfl) (ev7_takesNext) ?_
        refine g_ifeqB r7_takesGives_57 (fun h57 => ?_) (fun h57 => ?_)
        · refine g_k r7_takesGives_64 ?_
          exact g_zret r7_takesGives_65 rfl (Or.inl rfl) ⟨rfl, ⟨zrt (by first | rfl | (simp [zpGives, zpGivesR, zgo, zcbi, zor, znxR, zb, zs_ap, upd_ap, *]; done) | (simp_all [zpGives, zpGivesR, zgo, zcbi, zor, znxR, zb, zs_ap, upd_ap]; done) | (simp only [zpGives, zpGivesR, zgo, zcbi, zor, znxR, zb, zs_ap, upd_ap, Int32.le_iff_toInt_le, Int32.lt_iff_toInt_lt] at *; (repeat' split) <;> first | rfl | omega)), rfl, rfl, (by first | rfl | (simp [zpGives, zpGivesR, zgo, zcbi, zor, znxR, zb, zs_ap, upd_ap, *]; done) | (simp_all [zpGives, zpGivesR, zgo, zcbi, zor, znxR, zb, zs_ap, upd_ap]; done) | (simp only [zpGives, zpGivesR, zgo, zcbi, zor, znxR, zb, zs_ap, upd_ap, Int32.le_iff_toInt_le, Int32.lt_iff_toInt_lt] at *; (repeat' split) <;> first | rfl | omega))⟩⟩
        · refine g_k r7_takesGives_60 ?_
          refine g_goto r7_takesGives_61 ?_
          exact g_zret r7_takesGives_65 rfl (Or.inr rfl) ⟨rfl, ⟨zrt (by first | rfl | (simp [zpGives, zpGivesR, zgo, zcbi, zor, znxR, zb, zs_ap, upd_ap, *]; done) | (simp_all [zpGives, zpGivesR, zgo, zcbi, zor, znxR, zb, zs_ap, upd_ap]; done) | (simp only [zpGives, zpGivesR, zgo, zcbi, zor, znxR, zb, zs_ap, upd_ap, Int32.le_iff_toInt_le, Int32.lt_iff_toInt_lt] at *; (repeat' split) <;> first | rfl | omega)), rfl, rfl, (by first | rfl | (simp [zpGives, zpGivesR, zgo, zcbi, zor, znxR, zb, zs_ap, upd_ap, *]; done) | (simp_all [zpGives, zpGivesR, zgo, zcbi, zor, znxR, zb, zs_ap, upd_ap]; done) | (simp only [zpGives, zpGivesR, zgo, zcbi, zor, znxR, zb, zs_ap, upd_ap, Int32.le_iff_toInt_le, Int32.lt_iff_toInt_lt] at *; (repeat' split) <;> first | rfl | omega))⟩⟩
  · refine g_al0 r7_takesGives_13 ?_
    refine g_al0 r7_takesGives_14 ?_
    refine g_gfr r7_takesGives_15 xx_54 rfl rr_54_34 ?_
    refine g_il2 r7_takesGives_18 ?_
    refine g_ialdN r7_takesGives_19 xx_75 (by omega) (by decide) ?_
    refine g_k r7_takesGives_20 ?_
    refine g_iceq r7_takesGives_23 (fun h23 => ?_) (fun h23 => ?_)
    · refine g_k r7_takesGives_30 ?_
      refine g_k r7_takesGives_31 ?_
      refine g_eV2 r7_takesGives_33 ok7_goes pl7_takesGives pl7_goes xx_54 (Nat.le_of_ble_eq_true rfl) (ev7_goes (Or.inl rfl)) ?_
      exact g_zret r7_takesGives_36 rfl (Or.inl rfl) ⟨rfl, ⟨zrt (by first | rfl | (simp [zpGives, zpGivesR, zgo, zcbi, zor, znxR, zb, zs_ap, upd_ap, *]; done) | (simp_all [zpGives, zpGivesR, zgo, zcbi, zor, znxR, zb, zs_ap, upd_ap]; done) | (simp only [zpGives, zpGivesR, zgo, zcbi, zor, znxR, zb, zs_ap, upd_ap, Int32.le_iff_toInt_le, Int32.lt_iff_toInt_lt] at *; (repeat' split) <;> first | rfl | omega)), rfl, rfl, (by first | rfl | (simp [zpGives, zpGivesR, zgo, zcbi, zor, znxR, zb, zs_ap, upd_ap, *]; done) | (simp_all [zpGives, zpGivesR, zgo, zcbi, zor, znxR, zb, zs_ap, upd_ap]; done) | (simp only [zpGives, zpGivesR, zgo, zcbi, zor, znxR, zb, zs_ap, upd_ap, Int32.le_iff_toInt_le, Int32.lt_iff_toInt_lt] at *; (repeat' split) <;> first | rfl | omega))⟩⟩
    · refine g_k r7_takesGives_26 ?_
      refine g_goto r7_takesGives_27 ?_
      refine g_k r7_takesGives_31 ?_
      refine g_eV2 r7_takesGives_33 ok7_goes pl7_takesGives pl7_goes xx_54 (Nat.le_of_ble_eq_true rfl) (ev7_goes (Or.inr rfl)) ?_
      exact g_zret r7_takesGives_36 rfl (Or.inr rfl) ⟨rfl, ⟨zrt (by first | rfl | (simp [zpGives, zpGivesR, zgo, zcbi, zor, znxR, zb, zs_ap, upd_ap, *]; done) | (simp_all [zpGives, zpGivesR, zgo, zcbi, zor, znxR, zb, zs_ap, upd_ap]; done) | (simp only [zpGives, zpGivesR, zgo, zcbi, zor, znxR, zb, zs_ap, upd_ap, Int32.le_iff_toInt_le, Int32.lt_iff_toInt_lt] at *; (repeat' split) <;> first | rfl | omega)), rfl, rfl, (by first | rfl | (simp [zpGives, zpGivesR, zgo, zcbi, zor, znxR, zb, zs_ap, upd_ap, *]; done) | (simp_all [zpGives, zpGivesR, zgo, zcbi, zor, znxR, zb, zs_ap, upd_ap]; done) | (simp only [zpGives, zpGivesR, zgo, zcbi, zor, znxR, zb, zs_ap, upd_ap, Int32.le_iff_toInt_le, Int32.lt_iff_toInt_lt] at *; (repeat' split) <;> first | rfl | omega))⟩⟩
theorem ev7_takesTakes {w v e1 e2 : Nat} {h : Int64} {I : zMI} {c : Int32} {a : Nat} (ha : I 54 30 = nI (a + 1)) (ha10 : a < 10) : zEr m7_takesTakes (zRR w v e1 e2) h I [.ref 54, .int c] (some (.int (zpTakesR I a c))) (zRR w v e1 e2) h (zpTakes I a c) := by
  refine zEp_of [.ref 54, .int c, .null, .null] pl7_takesTakes (by decide +kernel) (fun _ _ => rfl) (fun _ _ => Nat.le_of_ble_eq_true rfl) ?_
  refine g_al0 r7_takesTakes_0 ?_
  refine g_gfi r7_takesTakes_1 xx_54 rfl ?_
  refine g_k r7_takesTakes_4 ?_
  refine g_isub r7_takesTakes_5 ?_
  rw [ha, nI_pred]
  refine g_is2 r7_takesTakes_6 rfl ?_
  refine g_il1 r7_takesTakes_7 ?_
  refine g_k r7_takesTakes_8 ?_
  refine g_icne r7_takesTakes_10 (fun h10 => ?_) (fun h10 => ?_)
  · refine g_al0 r7_takesTakes_36 ?_
    refine g_gfr r7_takesTakes_37 xx_54 rfl rr_54_35 ?_
    refine g_il2 r7_takesTakes_40 ?_
    refine g_ialdN r7_takesTakes_41 xx_76 (by omega) (by decide) ?_
    refine g_il1 r7_takesTakes_42 ?_
    refine g_eS2 r7_takesTakes_43 ok7_comesBehind pl7_takesTakes pl7_comesBehind (Nat.le_of_ble_eq_true rfl) (ev7_comesBehind) ?_
    refine g_ifeqB r7_takesTakes_46 (fun h46 => ?_) (fun h46 => ?_)
    · refine g_k r7_takesTakes_67 ?_
      refine g_is3 r7_takesTakes_68 rfl ?_
      refine g_al0 r7_takesTakes_69 ?_
      refine g_gfr r7_takesTakes_70 xx_54 rfl rr_54_35 ?_
      refine g_il2 r7_takesTakes_73 ?_
      refine g_dup2 r7_takesTakes_74 rfl rfl ?_
      refine g_ialdN r7_takesTakes_75 xx_76 (by omega) (by decide) ?_
      refine g_il3 r7_takesTakes_76 ?_
      refine g_ifeq r7_takesTakes_77 (fun _ => ?_) (fun hc => absurd rfl hc)
      refine g_k r7_takesTakes_87 ?_
      refine g_ior r7_takesTakes_88 ?_
      refine g_iastN r7_takesTakes_89 xx_76 (by omega) (by decide) ?_
      refine g_al0 r7_takesTakes_90 ?_
      refine g_il3 r7_takesTakes_91 ?_
      refine g_k r7_takesTakes_92 ?_
      refine g_eV2 r7_takesTakes_94 ok7_goes pl7_takesTakes pl7_goes xx_54 (Nat.le_of_ble_eq_true rfl) (ev7_goes (Or.inl rfl)) ?_
      exact g_zret r7_takesTakes_97 rfl (Or.inl rfl) ⟨rfl, ⟨zrt (by first | rfl | (simp [zpTakes, zpTakesR, zgo, zcbi, zor, zbi, znxR, zb, zs_ap, upd_ap, *]; done) | (simp_all [zpTakes, zpTakesR, zgo, zcbi, zor, zbi, znxR, zb, zs_ap, upd_ap]; done) | (simp only [zpTakes, zpTakesR, zgo, zcbi, zor, zbi, znxR, zb, zs_ap, upd_ap, Int32.le_iff_toInt_le, Int32.lt_iff_toInt_lt] at *; (repeat' split) <;> first | rfl | omega)), rfl, rfl, (by first | rfl | (simp [zpTakes, zpTakesR, zgo, zcbi, zor, zbi, znxR, zb, zs_ap, upd_ap, *]; done) | (simp_all [zpTakes, zpTakesR, zgo, zcbi, zor, zbi, znxR, zb, zs_ap, upd_ap]; done) | (simp only [zpTakes, zpTakesR, zgo, zcbi, zor, zbi, znxR, zb, zs_ap, upd_ap, Int32.le_iff_toInt_le, Int32.lt_iff_toInt_lt] at *; (repeat' split) <;> first | rfl | omega))⟩⟩
    · refine g_al0 r7_takesTakes_49 ?_
      refine g_gfr r7_takesTakes_50 xx_54 rfl rr_54_34 ?_
      refine g_il2 r7_takesTakes_53 ?_
      refine g_ialdN r7_takesTakes_54 xx_75 (by omega) (by decide) ?_
      refine g_il1 r7_takesTakes_55 ?_
      refine g_eS1 r7_takesTakes_56 ok7_bitOf pl7_takesTakes pl7_bitOf (Nat.le_of_ble_eq_true rfl) (ev7_bitOf) ?_
      refine g_iand r7_takesTakes_59 ?_
      refine g_ifne r7_takesTakes_60 (fun h60 => ?_) (fun h60 => ?_)
      · refine g_k r7_takesTakes_67 ?_
        refine g_is3 r7_takesTakes_68 rfl ?_
        refine g_al0 r7_takesTakes_69 ?_
        refine g_gfr r7_takesTakes_70 xx_54 rfl rr_54_35 ?_
        refine g_il2 r7_takesTakes_73 ?_
        refine g_dup2 r7_takesTakes_74 rfl rfl ?_
        refine g_ialdN r7_takesTakes_75 xx_76 (by omega) (by decide) ?_
        refine g_il3 r7_takesTakes_76 ?_
        refine g_ifeq r7_takesTakes_77 (fun _ => ?_) (fun hc => absurd rfl hc)
        refine g_k r7_takesTakes_87 ?_
        refine g_ior r7_takesTakes_88 ?_
        refine g_iastN r7_takesTakes_89 xx_76 (by omega) (by decide) ?_
        refine g_al0 r7_takesTakes_90 ?_
        refine g_il3 r7_takesTakes_91 ?_
        refine g_k r7_takesTakes_92 ?_
        refine g_eV2 r7_takesTakes_94 ok7_goes pl7_takesTakes pl7_goes xx_54 (Nat.le_of_ble_eq_true rfl) (ev7_goes (Or.inl rfl)) ?_
        exact g_zret r7_takesTakes_97 rfl (Or.inl rfl) ⟨rfl, ⟨zrt (by first | rfl | (simp [zpTakes, zpTakesR, zgo, zcbi, zor, zbi, znxR, zb, zs_ap, upd_ap, *]; done) | (simp_all [zpTakes, zpTakesR, zgo, zcbi, zor, zbi, znxR, zb, zs_ap, upd_ap]; done) | (simp only [zpTakes, zpTakesR, zgo, zcbi, zor, zbi, znxR, zb, zs_ap, upd_ap, Int32.le_iff_toInt_le, Int32.lt_iff_toInt_lt] at *; (repeat' split) <;> first | rfl | omega)), rfl, rfl, (by first | rfl | (simp [zpTakes, zpTakesR, zgo, zcbi, zor, zbi, znxR, zb, zs_ap, upd_ap, *]; done) | (simp_all [zpTakes, zpTakesR, zgo, zcbi, zor, zbi, znxR, zb, zs_ap, upd_ap]; done) | (simp only [zpTakes, zpTakesR, zgo, zcbi, zor, zbi, znxR, zb, zs_ap, upd_ap, Int32.le_iff_toInt_le, Int32.lt_iff_toInt_lt] at *; (repeat' split) <;> first | rfl | omega))⟩⟩
      · refine g_k r7_takesTakes_63 ?_
        refine g_goto r7_takesTakes_64 ?_
        refine g_is3 r7_takesTakes_68 rfl ?_
        refine g_al0 r7_takesTakes_69 ?_
        refine g_gfr r7_takesTakes_70 xx_54 rfl rr_54_35 ?_
        refine g_il2 r7_takesTakes_73 ?_
        refine g_dup2 r7_takesTakes_74 rfl rfl ?_
        refine g_ialdN r7_takesTakes_75 xx_76 (by omega) (by decide) ?_
        refine g_il3 r7_takesTakes_76 ?_
        refine g_ifeq r7_takesTakes_77 (fun hc => absurd hc (by decide)) (fun _ => ?_)
        refine g_il1 r7_takesTakes_80 ?_
        refine g_eS1 r7_takesTakes_81 ok7_bitOf pl7_takesTakes pl7_bitOf (Nat.le_of_ble_eq_true rfl) (ev7_bitOf) ?_
        refine g_goto r7_takesTakes_84 ?_
        refine g_ior r7_takesTakes_88 ?_
        refine g_iastN r7_takesTakes_89 xx_76 (by omega) (by decide) ?_
        refine g_al0 r7_takesTakes_90 ?_
        refine g_il3 r7_takesTakes_91 ?_
        refine g_k r7_takesTakes_92 ?_
        refine g_eV2 r7_takesTakes_94 ok7_goes pl7_takesTakes pl7_goes xx_54 (Nat.le_of_ble_eq_true rfl) (ev7_goes (Or.inr rfl)) ?_
        exact g_zret r7_takesTakes_97 rfl (Or.inr rfl) ⟨rfl, ⟨zrt (by first | rfl | (simp [zpTakes, zpTakesR, zgo, zcbi, zor, zbi, znxR, zb, zs_ap, upd_ap, *]; done) | (simp_all [zpTakes, zpTakesR, zgo, zcbi, zor, zbi, znxR, zb, zs_ap, upd_ap]; done) | (simp only [zpTakes, zpTakesR, zgo, zcbi, zor, zbi, znxR, zb, zs_ap, upd_ap, Int32.le_iff_toInt_le, Int32.lt_iff_toInt_lt] at *; (repeat' split) <;> first | rfl | omega)), rfl, rfl, (by first | rfl | (simp [zpTakes, zpTakesR, zgo, zcbi, zor, zbi, znxR, zb, zs_ap, upd_ap, *]; done) | (simp_all [zpTakes, zpTakesR, zgo, zcbi, zor, zbi, znxR, zb, zs_ap, upd_ap]; done) | (simp only [zpTakes, zpTakesR, zgo, zcbi, zor, zbi, znxR, zb, zs_ap, upd_ap, Int32.le_iff_toInt_le, Int32.lt_iff_toInt_lt] at *; (repeat' split) <;> first | rfl | omega))⟩⟩
  · refine g_al0 r7_takesTakes_13 ?_
    refine g_gfi r7_takesTakes_14 xx_54 rfl ?_
    refine g_k r7_takesTakes_17 ?_
    refine g_icne r7_takesTakes_19 (fun h19 => ?_) (fun h19 => ?_)
    · refine g_k r7_takesTakes_34 ?_
      exact g_zret r7_takesTakes_35 rfl (Or.inl rfl) ⟨rfl, ⟨zrt (by first | rfl | (simp [zpTakes, zpTakesR, zgo, zcbi, zor, zbi, znxR, zb, zs_ap, upd_ap, *]; done) | (simp_all [zpTakes, zpTakesR, zgo, zcbi, zor, zbi, znxR, zb, zs_ap, upd_ap]; done) | (simp only [zpTakes, zpTakesR, zgo, zcbi, zor, zbi, znxR, zb, zs_ap, upd_ap, Int32.le_iff_toInt_le, Int32.lt_iff_toInt_lt] at *; (repeat' split) <;> first | rfl | omega)), rfl, rfl, (by first | rfl | (simp [zpTakes, zpTakesR, zgo, zcbi, zor, zbi, znxR, zb, zs_ap, upd_ap, *]; done) | (simp_all [zpTakes, zpTakesR, zgo, zcbi, zor, zbi, znxR, zb, zs_ap, upd_ap]; done) | (simp only [zpTakes, zpTakesR, zgo, zcbi, zor, zbi, znxR, zb, zs_ap, upd_ap, Int32.le_iff_toInt_le, Int32.lt_iff_toInt_lt] at *; (repeat' split) <;> first | rfl | omega))⟩⟩
    · refine g_al0 r7_takesTakes_22 ?_
      refine g_il1 r7_takesTakes_23 ?_
      refine g_eV1 r7_takesTakes_24 ok7_takesNext pl7_takesTakes pl7_takesNext xx_54 (Nat.le_of_ble_eq_true rfl) (ev7_takesNext) ?_
      refine g_ifeqB r7_takesTakes_27 (fun h27 => ?_) (fun h27 => ?_)
      · refine g_k r7_takesTakes_34 ?_
        exact g_zret r7_takesTakes_35 rfl (Or.inl rfl) ⟨rfl, ⟨zrt (by first | rfl | (simp [zpTakes, zpTakesR, zgo, zcbi, zor, zbi, znxR, zb, zs_ap, upd_ap, *]; done) | (simp_all [zpTakes, zpTakesR, zgo, zcbi, zor, zbi, znxR, zb, zs_ap, upd_ap]; done) | (simp only [zpTakes, zpTakesR, zgo, zcbi, zor, zbi, znxR, zb, zs_ap, upd_ap, Int32.le_iff_toInt_le, Int32.lt_iff_toInt_lt] at *; (repeat' split) <;> first | rfl | omega)), rfl, rfl, (by first | rfl | (simp [zpTakes, zpTakesR, zgo, zcbi, zor, zbi, znxR, zb, zs_ap, upd_ap, *]; done) | (simp_all [zpTakes, zpTakesR, zgo, zcbi, zor, zbi, znxR, zb, zs_ap, upd_ap]; done) | (simp only [zpTakes, zpTakesR, zgo, zcbi, zor, zbi, znxR, zb, zs_ap, upd_ap, Int32.le_iff_toInt_le, Int32.lt_iff_toInt_lt] at *; (repeat' split) <;> first | rfl | omega))⟩⟩
      · refine g_k r7_takesTakes_30 ?_
        refine g_goto r7_takesTakes_31 ?_
        exact g_zret r7_takesTakes_35 rfl (Or.inr rfl) ⟨rfl, ⟨zrt (by first | rfl | (simp [zpTakes, zpTakesR, zgo, zcbi, zor, zbi, znxR, zb, zs_ap, upd_ap, *]; done) | (simp_all [zpTakes, zpTakesR, zgo, zcbi, zor, zbi, znxR, zb, zs_ap, upd_ap]; done) | (simp only [zpTakes, zpTakesR, zgo, zcbi, zor, zbi, znxR, zb, zs_ap, upd_ap, Int32.le_iff_toInt_le, Int32.lt_iff_toInt_lt] at *; (repeat' split) <;> first | rfl | omega)), rfl, rfl, (by first | rfl | (simp [zpTakes, zpTakesR, zgo, zcbi, zor, zbi, znxR, zb, zs_ap, upd_ap, *]; done) | (simp_all [zpTakes, zpTakesR, zgo, zcbi, zor, zbi, znxR, zb, zs_ap, upd_ap]; done) | (simp only [zpTakes, zpTakesR, zgo, zcbi, zor, zbi, znxR, zb, zs_ap, upd_ap, Int32.le_iff_toInt_le, Int32.lt_iff_toInt_lt] at *; (repeat' split) <;> first | rfl | omega))⟩⟩
def zpPersonR (K : zMI) (c : Int32) : Int32 := if K 54 24 = 0 then zb (¬ zkd c = -1) else if K 54 24 = 1 then zb (c = 43 ∨ c = 45) else if K 54 24 = 2 then zb (0 < zbit c) else if c = 59 then 1 else zb (c = 44 ∧ K 54 25 < 4)
def zpPerson (K : zMI) (n : Nat) (c : Int32) : zMI := if K 54 24 = 0 then zpKind K n c else if K 54 24 = 1 then zpSign K n c else if K 54 24 = 2 then zpWant K n c else zpAfter K c
def zpLR (K : zMI) (c : Int32) (a1 : Nat) : Int32 := if K 54 24 = 4 then (if c = 58 then 1 else zcbi (K 54 29) c) else if K 54 24 = 5 then zwh K c else if K 54 24 = 6 then zpNeedsR K (a1 - 1) c else if K 54 24 = 7 ∨ K 54 24 = 8 then zpBarsR K (a1 - 1) c else if K 54 24 = 9 then zpGivesR K (a1 - 1) c else if K 54 24 = 10 ∨ K 54 24 = 11 then zpTakesR K (a1 - 1) c else zpPersonR K c
def zpL (K : zMI) (c : Int32) (n a1 : Nat) : zMI := if K 54 24 = 4 then zpFirst K c else if K 54 24 = 5 then zpWhose K a1 c else if K 54 24 = 6 then zpNeeds K (a1 - 1) c else if K 54 24 = 7 ∨ K 54 24 = 8 then zpBars K (a1 - 1) c else if K 54 24 = 9 then zpGives K (a1 - 1) c else if K 54 24 = 10 ∨ K 54 24 = 11 then zpTakes K (a1 - 1) c else zpPerson K n c
theorem ev7_takesPerson {w v e1 e2 : Nat} {h : Int64} {I : zMI} {c : Int32} {n : Nat} (hn : I 54 25 = nI n) (hn4 : I 54 24 = 0 ∨ I 54 24 = 1 ∨ I 54 24 = 2 → n < 4) : zEr m7_takesPerson (zRR w v e1 e2) h I [.ref 54, .int c] (some (.int (zpPersonR I c))) (zRR w v e1 e2) h (zpPerson I n c) := by
  refine zEp_of [.ref 54, .int c] pl7_takesPerson (by decide +kernel) (fun _ _ => rfl) (fun _ _ => Nat.le_of_ble_eq_true rfl) ?_
  refine g_al0 r7_takesPerson_0 ?_
  refine g_gfi r7_takesPerson_1 xx_54 rfl ?_
  refine g_sw r7_takesPerson_4 ⟨fun h4 => ?_, fun h4 => ?_, fun h4 => ?_, trivial⟩ (fun h4 => ?_)
  · refine g_al0 r7_takesPerson_32 ?_
    refine g_il1 r7_takesPerson_33 ?_
    refine g_eV1 r7_takesPerson_34 ok7_takesKind pl7_takesPerson pl7_takesKind xx_54 (Nat.le_of_ble_eq_true rfl) (ev7_takesKind hn (hn4 (Or.inl h4))) ?_
    exact g_zret r7_takesPerson_37 rfl (zb_01 _) ⟨rfl, ⟨zrt (by simp [zpPersonR, h4]), rfl, rfl, (by simp [zpPerson, h4])⟩⟩
  · refine g_al0 r7_takesPerson_38 ?_
    refine g_il1 r7_takesPerson_39 ?_
    refine g_eV1 r7_takesPerson_40 ok7_takesSign pl7_takesPerson pl7_takesSign xx_54 (Nat.le_of_ble_eq_true rfl) (ev7_takesSign hn (hn4 (Or.inr (Or.inl h4)))) ?_
    exact g_zret r7_takesPerson_43 rfl (zb_01 _) ⟨rfl, ⟨zrt (by simp [zpPersonR, h4]), rfl, rfl, (by simp [zpPerson, h4])⟩⟩
  · refine g_al0 r7_takesPerson_44 ?_
    refine g_il1 r7_takesPerson_45 ?_
    refine g_eV1 r7_takesPerson_46 ok7_takesWant pl7_takesPerson pl7_takesWant xx_54 (Nat.le_of_ble_eq_true rfl) (ev7_takesWant hn (hn4 (Or.inr (Or.inr h4)))) ?_
    exact g_zret r7_takesPerson_49 rfl (zb_01 _) ⟨rfl, ⟨zrt (by simp [zpPersonR, h4]), rfl, rfl, (by simp [zpPerson, h4])⟩⟩
  · simp only [List.mem_cons, List.not_mem_nil, or_false, forall_eq_or_imp, forall_eq] at h4
    obtain ⟨q0, q1, q2⟩ := h4
    clear hn4 hn
    refine g_il1 r7_takesPerson_50 ?_
    refine g_k r7_takesPerson_51 ?_
    refine g_icne r7_takesPerson_53 (fun h53 => ?_) (fun h53 => ?_)
    · refine g_al0 r7_takesPerson_65 ?_
      refine g_il1 r7_takesPerson_66 ?_
      refine g_k r7_takesPerson_67 ?_
      refine g_icne r7_takesPerson_69 (fun h69 => ?_) (fun h69 => ?_)
      · refine g_k r7_takesPerson_84 ?_
        refine g_k r7_takesPerson_85 ?_
        refine g_eV2 r7_takesPerson_86 ok7_goes pl7_takesPerson pl7_goes xx_54 (Nat.le_of_ble_eq_true rfl) (ev7_goes (Or.inl rfl)) ?_
        exact g_zret r7_takesPerson_89 rfl (Or.inl rfl) ⟨rfl, ⟨zrt (by first | rfl | (simp [zpPersonR, zpPerson, zpAfter, zb, zs_ap, upd_ap, *]; done) | (simp_all [zpPersonR, zpPerson, zpAfter, zb, zs_ap, upd_ap]; done) | (simp only [zpPersonR, zpPerson, zpAfter, zb, zs_ap, upd_ap, Int32.le_iff_toInt_le, Int32.lt_iff_toInt_lt] at *; (repeat' split) <;> first | rfl | omega)), rfl, rfl, (by first | rfl | (simp [zpPersonR, zpPerson, zpAfter, zb, zs_ap, upd_ap, *]; done) | (simp_all [zpPersonR, zpPerson, zpAfter, zb, zs_ap, upd_ap]; done) | (simp only [zpPersonR, zpPerson, zpAfter, zb, zs_ap, upd_ap, Int32.le_iff_toInt_le, Int32.lt_iff_toInt_lt] at *; (repeat' split) <;> first | rfl | omega))⟩⟩
      · refine g_al0 r7_takesPerson_72 ?_
        refine g_gfi r7_takesPerson_73 xx_54 rfl ?_
        refine g_k r7_takesPerson_76 ?_
        refine g_icgeL r7_takesPerson_77 (fun h77 => ?_) (fun h77 => ?_)
        · refine g_k r7_takesPerson_84 ?_
          refine g_k r7_takesPerson_85 ?_
          refine g_eV2 r7_takesPerson_86 ok7_goes pl7_takesPerson pl7_goes xx_54 (Nat.le_of_ble_eq_true rfl) (ev7_goes (Or.inl rfl)) ?_
          exact g_zret r7_takesPerson_89 rfl (Or.inl rfl) ⟨rfl, ⟨zrt (by first | rfl | (simp [zpPersonR, zpPerson, zpAfter, zb, zs_ap, upd_ap, *]; done) | (simp_all [zpPersonR, zpPerson, zpAfter, zb, zs_ap, upd_ap]; done) | (simp only [zpPersonR, zpPerson, zpAfter, zb, zs_ap, upd_ap, Int32.le_iff_toInt_le, Int32.lt_iff_toInt_lt] at *; (repeat' split) <;> first | rfl | omega)), rfl, rfl, (by first | rfl | (simp [zpPersonR, zpPerson, zpAfter, zb, zs_ap, upd_ap, *]; done) | (simp_all [zpPersonR, zpPerson, zpAfter, zb, zs_ap, upd_ap]; done) | (simp only [zpPersonR, zpPerson, zpAfter, zb, zs_ap, upd_ap, Int32.le_iff_toInt_le, Int32.lt_iff_toInt_lt] at *; (repeat' split) <;> first | rfl | omega))⟩⟩
        · refine g_k r7_takesPerson_80 ?_
          refine g_goto r7_takesPerson_81 ?_
          refine g_k r7_takesPerson_85 ?_
          refine g_eV2 r7_takesPerson_86 ok7_goes pl7_takesPerson pl7_goes xx_54 (Nat.le_of_ble_eq_true rfl) (ev7_goes (Or.inr rfl)) ?_
          exact g_zret r7_takesPerson_89 rfl (Or.inr rfl) ⟨rfl, ⟨zrt (by first | rfl | (simp [zpPersonR, zpPerson, zpAfter, zb, zs_ap, upd_ap, *]; done) | (simp_all [zpPersonR, zpPerson, zpAfter, zb, zs_ap, upd_ap]; done) | (simp only [zpPersonR, zpPerson, zpAfter, zb, zs_ap, upd_ap, Int32.le_iff_toInt_le, Int32.lt_iff_toInt_lt] at *; (repeat' split) <;> first | rfl | omega)), rfl, rfl, (by first | rfl | (simp [zpPersonR, zpPerson, zpAfter, zb, zs_ap, upd_ap, *]; done) | (simp_all [zpPersonR, zpPerson, zpAfter, zb, zs_ap, upd_ap]; done) | (simp only [zpPersonR, zpPerson, zpAfter, zb, zs_ap, upd_ap, Int32.le_iff_toInt_le, Int32.lt_iff_toInt_lt] at *; (repeat' split) <;> first | rfl | omega))⟩⟩
    · refine g_al0 r7_takesPerson_56 ?_
      refine g_k r7_takesPerson_57 ?_
      refine g_k r7_takesPerson_58 ?_
      refine g_eV2 r7_takesPerson_59 ok7_goes pl7_takesPerson pl7_goes xx_54 (Nat.le_of_ble_eq_true rfl) (ev7_goes (Or.inr rfl)) ?_
      refine g_goto r7_takesPerson_62 ?_
      exact g_zret r7_takesPerson_89 rfl (Or.inr rfl) ⟨rfl, ⟨zrt (by first | rfl | (simp [zpPersonR, zpPerson, zpAfter, zb, zs_ap, upd_ap, *]; done) | (simp_all [zpPersonR, zpPerson, zpAfter, zb, zs_ap, upd_ap]; done) | (simp only [zpPersonR, zpPerson, zpAfter, zb, zs_ap, upd_ap, Int32.le_iff_toInt_le, Int32.lt_iff_toInt_lt] at *; (repeat' split) <;> first | rfl | omega)), rfl, rfl, (by first | rfl | (simp [zpPersonR, zpPerson, zpAfter, zb, zs_ap, upd_ap, *]; done) | (simp_all [zpPersonR, zpPerson, zpAfter, zb, zs_ap, upd_ap]; done) | (simp only [zpPersonR, zpPerson, zpAfter, zb, zs_ap, upd_ap, Int32.le_iff_toInt_le, Int32.lt_iff_toInt_lt] at *; (repeat' split) <;> first | rfl | omega))⟩⟩
def zPS (K : zMI) (n a1 : Nat) : Prop := K 54 25 = nI n ∧ K 54 30 = nI a1 ∧ (K 54 24 = 0 ∨ K 54 24 = 1 ∨ K 54 24 = 2 → n < 4) ∧ (K 54 24 = 5 → a1 < 10) ∧ a1 ≤ 10 ∧ (K 54 24 = 6 ∨ K 54 24 = 7 ∨ K 54 24 = 8 ∨ K 54 24 = 9 ∨ K 54 24 = 10 ∨ K 54 24 = 11 → 0 < a1)
theorem zPS.a {K : zMI} {n a1 : Nat} (hp : zPS K n a1) (hz : K 54 24 = 6 ∨ K 54 24 = 7 ∨ K 54 24 = 8 ∨ K 54 24 = 9 ∨ K 54 24 = 10 ∨ K 54 24 = 11) : K 54 30 = nI (a1 - 1 + 1) ∧ a1 - 1 < 10 := by
  have h1 := hp.2.2.2.2.2 hz
  have h2 := hp.2.2.2.2.1
  exact ⟨by rw [show a1 - 1 + 1 = a1 by omega]; exact hp.2.1, by omega⟩
theorem z01_first (s c : Int32) : (if c = 58 then (1 : Int32) else zcbi s c) = 0 ∨ (if c = 58 then (1 : Int32) else zcbi s c) = 1 := by
  simp only [zcbi]
  (repeat' split) <;> first | exact zb_01 _ | exact Or.inl rfl | exact Or.inr rfl
theorem z01_needs (K : zMI) (a : Nat) (c : Int32) : zpNeedsR K a c = 0 ∨ zpNeedsR K a c = 1 := by
  simp only [zpNeedsR, zcbi]
  (repeat' split) <;> first | exact zb_01 _ | exact Or.inl rfl | exact Or.inr rfl
theorem z01_bars (K : zMI) (a : Nat) (c : Int32) : zpBarsR K a c = 0 ∨ zpBarsR K a c = 1 := by
  simp only [zpBarsR, zbi]
  (repeat' split) <;> first | exact zb_01 _ | exact Or.inl rfl | exact Or.inr rfl
theorem z01_gives (K : zMI) (a : Nat) (c : Int32) : zpGivesR K a c = 0 ∨ zpGivesR K a c = 1 := by
  simp only [zpGivesR, zcbi, znxR]
  (repeat' split) <;> first | exact zb_01 _ | exact Or.inl rfl | exact Or.inr rfl
theorem z01_takes (K : zMI) (a : Nat) (c : Int32) : zpTakesR K a c = 0 ∨ zpTakesR K a c = 1 := by
  simp only [zpTakesR, zbi, znxR]
  (repeat' split) <;> first | exact zb_01 _ | exact Or.inl rfl | exact Or.inr rfl
theorem z01_person (K : zMI) (c : Int32) : zpPersonR K c = 0 ∨ zpPersonR K c = 1 := by
  simp only [zpPersonR]
  (repeat' split) <;> first | exact zb_01 _ | exact Or.inl rfl | exact Or.inr rfl
theorem z01_zwh (K : zMI) (c : Int32) : zwh K c = 0 ∨ zwh K c = 1 := by
  simp only [zwh]
  (repeat' split) <;> first | exact zb_01 _ | exact Or.inl rfl | exact Or.inr rfl
theorem z01_L (K : zMI) (c : Int32) (a : Nat) : zpLR K c a = 0 ∨ zpLR K c a = 1 := by
  unfold zpLR
  (repeat' split) <;> first | exact zb_01 _ | exact Or.inl rfl | exact Or.inr rfl | exact z01_needs .. | exact z01_bars .. | exact z01_gives .. | exact z01_takes .. | exact z01_person .. | exact z01_zwh ..
theorem ev7_takesLetter {w v e1 e2 : Nat} {h : Int64} {I : zMI} {c : Int32} {n a1 : Nat} (hp : zPS I n a1) : zEr m7_takesLetter (zRR w v e1 e2) h I [.ref 54, .int c] (some (.int (zpLR I c a1))) (zRR w v e1 e2) h (zpL I c n a1) := by
  refine zEp_of [.ref 54, .int c] pl7_takesLetter (by decide +kernel) (fun _ _ => rfl) (fun _ _ => Nat.le_of_ble_eq_true rfl) ?_
  refine g_al0 r7_takesLetter_0 ?_
  refine g_gfi r7_takesLetter_1 xx_54 rfl ?_
  refine g_sw r7_takesLetter_4 ⟨fun h4 => ?_, fun h4 => ?_, fun h4 => ?_, fun h4 => ?_, fun h4 => ?_, fun h4 => ?_, fun h4 => ?_, fun h4 => ?_, trivial⟩ (fun h4 => ?_)
  · refine g_al0 r7_takesLetter_52 ?_
    refine g_il1 r7_takesLetter_53 ?_
    refine g_eV1 r7_takesLetter_54 ok7_takesFirst pl7_takesLetter pl7_takesFirst xx_54 (Nat.le_of_ble_eq_true rfl) (ev7_takesFirst) ?_
    exact g_zret r7_takesLetter_57 rfl (z01_first _ _) ⟨rfl, ⟨zrt (by simp [zpLR, h4]), rfl, rfl, (by simp [zpL, h4])⟩⟩
  · refine g_al0 r7_takesLetter_58 ?_
    refine g_il1 r7_takesLetter_59 ?_
    refine g_eV1 r7_takesLetter_60 ok7_takesWhose pl7_takesLetter pl7_takesWhose xx_54 (Nat.le_of_ble_eq_true rfl) (ev7_takesWhose hp.2.1 (hp.2.2.2.1 h4)) ?_
    exact g_zret r7_takesLetter_63 rfl (zb_01 _) ⟨rfl, ⟨zrt (by simp [zpLR, h4]), rfl, rfl, (by simp [zpL, h4])⟩⟩
  · refine g_al0 r7_takesLetter_64 ?_
    refine g_il1 r7_takesLetter_65 ?_
    refine g_eV1 r7_takesLetter_66 ok7_takesNeeds pl7_takesLetter pl7_takesNeeds xx_54 (Nat.le_of_ble_eq_true rfl) (ev7_takesNeeds (hp.a (Or.inl h4)).1 (hp.a (Or.inl h4)).2) ?_
    exact g_zret r7_takesLetter_69 rfl (z01_needs _ _ _) ⟨rfl, ⟨zrt (by simp [zpLR, h4]), rfl, rfl, (by simp [zpL, h4])⟩⟩
  · refine g_al0 r7_takesLetter_70 ?_
    refine g_il1 r7_takesLetter_71 ?_
    refine g_eV1 r7_takesLetter_72 ok7_takesBars pl7_takesLetter pl7_takesBars xx_54 (Nat.le_of_ble_eq_true rfl) (ev7_takesBars (hp.a (Or.inr (Or.inl h4))).1 (hp.a (Or.inr (Or.inl h4))).2) ?_
    exact g_zret r7_takesLetter_75 rfl (z01_bars _ _ _) ⟨rfl, ⟨zrt (by simp [zpLR, h4]), rfl, rfl, (by simp [zpL, h4])⟩⟩
  · refine g_al0 r7_takesLetter_70 ?_
    refine g_il1 r7_takesLetter_71 ?_
    refine g_eV1 r7_takesLetter_72 ok7_takesBars pl7_takesLetter pl7_takesBars xx_54 (Nat.le_of_ble_eq_true rfl) (ev7_takesBars (hp.a (Or.inr (Or.inr (Or.inl h4)))).1 (hp.a (Or.inr (Or.inr (Or.inl h4)))).2) ?_
    exact g_zret r7_takesLetter_75 rfl (z01_bars _ _ _) ⟨rfl, ⟨zrt (by simp [zpLR, h4]), rfl, rfl, (by simp [zpL, h4])⟩⟩
  · refine g_al0 r7_takesLetter_76 ?_
    refine g_il1 r7_takesLetter_77 ?_
    refine g_eV1 r7_takesLetter_78 ok7_takesGives pl7_takesLetter pl7_takesGives xx_54 (Nat.le_of_ble_eq_true rfl) (ev7_takesGives (hp.a (Or.inr (Or.inr (Or.inr (Or.inl h4))))).1 (hp.a (Or.inr (Or.inr (Or.inr (Or.inl h4))))).2) ?_
    exact g_zret r7_takesLetter_81 rfl (z01_gives _ _ _) ⟨rfl, ⟨zrt (by simp [zpLR, h4]), rfl, rfl, (by simp [zpL, h4])⟩⟩
  · refine g_al0 r7_takesLetter_82 ?_
    refine g_il1 r7_takesLetter_83 ?_
    refine g_eV1 r7_takesLetter_84 ok7_takesTakes pl7_takesLetter pl7_takesTakes xx_54 (Nat.le_of_ble_eq_true rfl) (ev7_takesTakes (hp.a (Or.inr (Or.inr (Or.inr (Or.inr (Or.inl h4)))))).1 (hp.a (Or.inr (Or.inr (Or.inr (Or.inr (Or.inl h4)))))).2) ?_
    exact g_zret r7_takesLetter_87 rfl (z01_takes _ _ _) ⟨rfl, ⟨zrt (by simp [zpLR, h4]), rfl, rfl, (by simp [zpL, h4])⟩⟩
  · refine g_al0 r7_takesLetter_82 ?_
    refine g_il1 r7_takesLetter_83 ?_
    refine g_eV1 r7_takesLetter_84 ok7_takesTakes pl7_takesLetter pl7_takesTakes xx_54 (Nat.le_of_ble_eq_true rfl) (ev7_takesTakes (hp.a (Or.inr (Or.inr (Or.inr (Or.inr (Or.inr h4)))))).1 (hp.a (Or.inr (Or.inr (Or.inr (Or.inr (Or.inr h4)))))).2) ?_
    exact g_zret r7_takesLetter_87 rfl (z01_takes _ _ _) ⟨rfl, ⟨zrt (by simp [zpLR, h4]), rfl, rfl, (by simp [zpL, h4])⟩⟩
  · simp only [List.mem_cons, List.not_mem_nil, or_false, forall_eq_or_imp, forall_eq] at h4
    obtain ⟨q4, q5, q6, q7, q8, q9, q10, q11⟩ := h4
    refine g_al0 r7_takesLetter_88 ?_
    refine g_il1 r7_takesLetter_89 ?_
    refine g_eV1 r7_takesLetter_90 ok7_takesPerson pl7_takesLetter pl7_takesPerson xx_54 (Nat.le_of_ble_eq_true rfl) (ev7_takesPerson hp.1 hp.2.2.1) ?_
    exact g_zret r7_takesLetter_93 rfl (z01_person _ _) ⟨rfl, ⟨zrt (by simp [zpLR, *]), rfl, rfl, (by simp [zpL, *])⟩⟩
def zp0 (K : zMI) : zMI := zs K 54 (upd (upd (upd (upd (K 54) 24 0) 25 0) 29 0) 30 0)
def zpn (K : zMI) : Nat := (K 54 25).toNatClampNeg
def zpa (K : zMI) : Nat := (K 54 30).toNatClampNeg
/-- the state behind i signs of a page f -/
def zpr (K : zMI) (f : Nat → Int32) : Nat → zMI
  | 0 => zp0 K
  | i + 1 => zpL (zpr K f i) (f i) (zpn (zpr K f i)) (zpa (zpr K f i))
/-- are the first i signs taken? -/
def zpt (K : zMI) (f : Nat → Int32) (i : Nat) : Prop := ∀ j, j < i → zpLR (zpr K f j) (f j) (zpa (zpr K f j)) = 1
theorem lp7_read {w v0 e1 e2 : Nat} {h : Int64} {I : zMI} {L : Nat} (hL : I 54 19 = nI L) (hL90 : L ≤ 90) (hS : ∀ j, zpt I (I 68) j → j ≤ L → zPS (zpr I (I 68) j) (zpn (zpr I (I 68) j)) (zpa (zpr I (I 68) j)) ∧ (zpr I (I 68) j) 68 = I 68 ∧ (zpr I (I 68) j) 54 19 = nI L) : ∀ d i, L - i < d → i ≤ L → zpt I (I 68) i → zGo m7_read 22 [.ref 54, .int (nI i)] [] zX (zRR w v0 e1 e2) h (zpr I (I 68) i) (fun v X1 R1 h1 I1 => X1 = zX ∧ ∃ k, k ≤ L ∧ zpt I (I 68) k ∧ ((k = L ∧ I1 = zpr I (I 68) k) ∨ (k < L ∧ zpLR (zpr I (I 68) k) (I 68 k) (zpa (zpr I (I 68) k)) = 0 ∧ I1 = zpr I (I 68) (k + 1))) ∧ v = some (.int (nI k)) ∧ R1 = zRR w v0 e1 e2 ∧ h1 = h) := by
  intro d
  induction d with
  | zero => intro i hd0; exact absurd hd0 (Nat.not_lt_zero _)
  | succ d ih =>
    intro i hd0 hd1 hT
    obtain ⟨hP, hrow, hlen⟩ := hS i hT hd1
    refine g_il1 r7_read_22 ?_
    refine g_al0 r7_read_23 ?_
    refine g_gfi r7_read_24 xx_54 rfl ?_
    refine g_eqv (y := nI L) hlen ?_
    refine g_icgeN r7_read_27 (by omega) (by omega) (fun h27 => ?_) (fun h27 => ?_)
    · refine g_il1 r7_read_49 ?_
      exact g_iret r7_read_50 rfl ⟨rfl, ⟨i, hd1, hT, Or.inl ⟨by omega, rfl⟩, rfl, rfl, rfl⟩⟩
    · refine g_al0 r7_read_30 ?_
      refine g_al0 r7_read_31 ?_
      refine g_gfr r7_read_32 xx_54 rfl rr_54_20 ?_
      refine g_il1 r7_read_35 ?_
      refine g_ialdN r7_read_36 xx_68 (by omega) (by decide) ?_
      rw [hrow]
      refine g_eV1 r7_read_37 ok7_takesLetter pl7_read pl7_takesLetter xx_54 (Nat.le_of_ble_eq_true rfl) (ev7_takesLetter hP) ?_
      refine g_ifeq r7_read_40 (fun h40 => ?_) (fun h40 => ?_)
      · refine g_il1 r7_read_49 ?_
        exact g_iret r7_read_50 rfl ⟨rfl, ⟨i, hd1, hT, Or.inr ⟨h27, h40, rfl⟩, rfl, rfl, rfl⟩⟩
      · refine g_iiN1 r7_read_43 rfl ?_
        refine g_goto r7_read_46 ?_
        exact ih (i + 1) (by omega) (by omega) (fun j hj => by
          rcases Nat.lt_succ_iff_lt_or_eq.mp hj with q | rfl
          · exact hT j q
          · exact (z01_L _ _ _).resolve_left h40)
