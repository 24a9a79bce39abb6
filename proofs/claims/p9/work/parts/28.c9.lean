noncomputable section
theorem MT_ok : MT.AllP MeOk := ⟨⟨me_H_feed, me_H_cut, me_H_tick, me_H_isMoment, me_H_isAct, me_H_isAmong, me_H_person, me_H_group, me_Wh_isPerson, me_Wh_isGroup, me_Wh_isMember, me_Wh_isFromAmong, me_Wh_isLasting, me_Wh_counts, me_Wh_reachedFrom, me_Wh_wouldRing, me_Wh_addRow, me_H_put, me_Wh_endRow, me_H_back, me_Wh_groupsOf, trivial⟩, ⟨me_H_belongs, me_H_rowOf, me_Wh_slotOfPerson, me_Th_isThere, me_Wh_slotOfThing, me_H_slotOf, me_Wh_setFeature, me_H_feature, me_Re_isNoNumber, me_Wh_setItem, me_H_item, me_H_itemOf, me_Wh_hasItems, me_H_copy, me_Th_add, me_H_thing, me_Th_isInside, me_H_move, me_H_cutOff, me_Th_bearsAny, me_H_drop, trivial⟩, ⟨me_Th_depthOf, me_H_thingOf, me_Th_isUnder, me_H_under, me_Th_closeHolds, me_Th_tellHolds, me_H_holds, me_Th_actHolds, me_H_doesHold, me_Po_isFigure, me_Po_addToken, me_Re_packed, me_Re_ofWhole, me_Re_isEndless, me_Re_isZero, me_Re_mantissa, me_Re_shortage, me_Re_exponent, me_Re_over, me_Po_splitNumber, me_Po_isLetter, trivial⟩, ⟨me_JS_isLatin1, me_JS_coder, me_JS_length, me_JL_canEncode, me_JL_indexOfChar, me_JL_indexOf, me_JS_indexOf_1, me_JS_indexOf_0, me_Po_splitSign, me_Po_splitOff, me_Po_split, me_Po_ruleAt, me_JS_checkIndex, me_JL_charAt, me_JS_charAt, me_Po_isWord, me_Po_fail, me_Po_readEffect, me_Po_numberBehind, me_Po_readWho, me_Po_oneLetter, trivial⟩, ⟨me_Po_readAct, me_Po_isSign, me_Po_readThing, me_Po_emit, me_Po_readFeature, me_Po_passes, me_Po_readItem, me_Po_readNested, me_Po_readTerm, me_Po_readProduct, me_Po_readSum, me_Po_comparisonHere, me_Po_readComparison, me_Po_aimHere, me_Po_readBothWays, me_Po_readSuch, me_Po_readPart, me_Po_readCondition, me_Po_readRule, me_Po_read, me_H_policy, trivial⟩, ⟨me_H_rules, me_H_sumAhead, me_H_sumBehind, me_H_writeLog, me_H_inForce, me_H_policyInForce, me_H_isRequest, me_Ju_setMoment, me_Ju_setPerson, me_Ju_fitsWho, me_Ju_fitsAct, me_Ju_fitsThing, me_Ju_behindSkip, me_Ju_slotOf, me_Ju_pushTruth, me_Ju_combine, me_Ju_pushValue, me_Ju_failBy, me_Ju_loadItem, me_Ju_load, me_Re_negated, trivial⟩, ⟨me_Ju_calculateWholes, me_Re_plus, me_Re_times, me_Re_rest, me_Ju_calculate, me_Wh_hasMark, me_Ju_weighAmong, me_JG_compare, me_Re_order, me_Ju_isSo, me_Ju_weigh, me_Ju_endOfComparison, me_Ju_truthOf, me_Ju_spoken, me_Ju_weightOf, me_Ju_answer, me_Ju_answerKept, me_H_ask, me_H_asked, me_H_made, me_Ju_thingAllowed, trivial⟩, ⟨me_H_may, me_Ju_personAllowed, me_H_who, me_Ju_noteDifference, me_Ju_differences, me_H_compare, me_H_compared, me_Ju_decidedBy, me_H_decides, me_Ro_addLaw, me_H_law, me_Ro_refusingGiver, me_Ro_isBothOn, me_Ro_doesLawHold, me_Ro_firstNotHolding, me_Ro_giveRow, me_H_give, me_Wh_endRows, me_H_take, me_H_broken, me_H_breach, trivial⟩, ⟨me_Ro_addSession, me_H_session, me_Ro_turnOn, me_H_switchOn, me_H_switchOff, me_Ro_groupsIn, me_H_askIn, me_H_work, me_Wo_addStep, me_H_step, me_Wo_addTie, me_H_tie, me_H_isSearch, me_Wo_prepare, me_Wo_hasAnybodyMoreThan, me_Wo_doTiesHold, me_Wo_searchFrom, me_Wo_search, me_Wo_keep, me_H_fill, me_H_filled, trivial⟩, ⟨me_Wo_searchWith, me_H_next, me_H_perform, me_Wo_hasDone, me_H_needed, me_H_tries, me_Le_lendGiving, me_Le_hasRight, me_Le_weighAll, me_Le_add, me_H_lend, me_H_endLend, me_Le_keepChain, me_H_stands, me_H_chain, me_Le_spendChain, me_H_useRight, me_H_lendOf, me_H_isHolder, me_Le_setKey, me_H_key, trivial⟩, ⟨me_Le_pass, me_Le_goRound, me_Le_countGains, me_Le_gainsUntil, me_H_ever, me_H_gain, me_H_label, me_Fl_isVariable, me_Fl_isStatement, me_Fl_isBlock, me_Fl_isWithin, me_Fl_reachesOut, me_Fl_addStatement, me_H_statement, me_H_erase, me_Fl_doesFlow, me_Fl_isTight, me_Fl_firstLoose, me_H_tight, me_Fl_countLowers, me_H_lowered, trivial⟩, ⟨me_H_given, me_Fl_behindBlock, me_Fl_sayOn, me_Fl_runBlock, me_Fl_runOne, me_Fl_run, me_H_flow, me_H_said, me_H_variable, me_H_isAsker, me_H_guarded, me_Gu_wasTold, me_Gu_total, me_Gu_reduce, me_Gu_addRow, me_Gu_rankOf, me_Gu_wouldReveal, me_Gu_tell, me_H_sum, me_Gu_join, me_H_share, trivial⟩, ⟨me_Gu_wasToldToAny, me_Gu_countSets, me_H_knows, me_Ga_areRights, me_Ga_addRoom, me_H_room, me_Ga_addMethod, me_H_method, me_Ga_isOp, me_Ga_addOp, me_H_op, me_Ga_push, me_Ga_lackingIn, me_Ga_lackingOf, me_Ga_throwOut, me_Ga_callBy, me_Ga_goOn, me_Ga_run, me_H_enter, me_H_entered, me_H_tapeNumber, trivial⟩, ⟨me_H_half, me_H_areHalves, me_H_inverse, me_H_weightOf, me_H_joined, me_H_logged, me_H_forge, me_H_wrong, me_H_sealed, me_H_could, me_M_in, me_M_isMoment, me_M_isNan, me_M_isInfinite, me_M_isZero, me_M_mantissa, me_M_exponent, me_M_length, me_M_signed, me_M_pack, me_M_fit, trivial⟩, ⟨me_M_ofWhole, me_M_times, me_M_plus, me_M_other, me_M_over, me_M_left, me_M_rank, me_M_feed, me_M_cut, me_M_tick, me_M_mixed, me_M_sumOf, me_M_log, me_M_logged, me_M_forge, me_M_wrong, me_M_sealed, me_M_person, me_M_group, me_M_isPerson, me_M_isGroup, trivial⟩, ⟨me_M_standsAt, me_M_spreads, me_M_reaches, me_M_isIn, me_M_rowPut, me_M_put, me_M_back, me_M_belongs, me_M_rowOf, me_M_isThing, me_M_rowFor, me_M_feature, me_M_item, me_M_itemOf, me_M_copy, me_M_begins, me_M_isHere, me_M_thing, me_M_move, me_M_cutOff, me_M_drop, trivial⟩, ⟨me_M_depthOf, me_M_thingOf, me_M_isUnder, me_M_under, me_M_holds, me_M_heldBy, me_M_isHeld, me_M_doesHold, me_M_byteAt, me_M_isFigure, me_M_isLetter, me_M_number, me_M_sign, me_M_token, me_M_isSign, me_M_isWord, me_M_numbered, me_M_emit, me_M_reduce, me_M_holdBack, me_M_deeper, trivial⟩, ⟨me_M_opens, me_M_isFeature, me_M_valueDone, me_M_featureDone, me_M_wanted, me_M_comparison, me_M_reckoning, me_M_closes, me_M_closed, me_M_goesOn, me_M_condition, me_M_fails, me_M_isEffect, me_M_isWho, me_M_isAct, me_M_isRuleThing, me_M_isRule, me_M_policy, me_M_isPolicy, me_M_rules, me_M_push, trivial⟩, ⟨me_M_pushItem, me_M_pushAt, me_M_pushIn, me_M_holdsFor, me_M_pushOf, me_M_pushJoined, me_M_evaluate, me_M_says, me_M_placeOf, me_M_judge, me_M_keeps, me_M_forceAt, me_M_inForce, me_M_ask, me_M_asked, me_M_made, me_M_may, me_M_whoAt, me_M_who, me_M_could, me_M_compare, trivial⟩, ⟨me_M_compared, me_M_decides, me_M_law, me_M_keepsLaw, me_M_giverLaw, me_M_give, me_M_take, me_M_broken, me_M_breach, me_M_session, me_M_switchOn, me_M_switchOff, me_M_askIn, me_M_work, me_M_isWork, me_M_isStep, me_M_step, me_M_tie, me_M_keepsTies, me_M_searches, me_M_setDone, trivial⟩, ⟨me_M_fill, me_M_filled, me_M_nextOf, me_M_next, me_M_perform, me_M_needed, me_M_tries, me_M_fits, me_M_lookAt, me_M_isStanding, me_M_keepChain, me_M_lend, me_M_endLend, me_M_stands, me_M_chain, me_M_useRight, me_M_lendOf, me_M_gets, me_M_grow, me_M_key, me_M_ever, trivial⟩, ⟨me_M_gain, me_M_labelled, me_M_label, me_M_isBlock, me_M_endOf, me_M_statement, me_M_erase, me_M_tight, me_M_lowered, me_M_given, me_M_cutEnd, me_M_flow, me_M_said, me_M_variable, me_M_guarded, me_M_know, me_M_gather, me_M_link, me_M_power, me_M_rankWith, me_M_tellsOne, trivial⟩, ⟨me_M_added, me_M_sum, me_M_share, me_M_knows, me_M_room, me_M_method, me_M_op, me_M_begin, me_M_lacking, me_M_isCaught, me_M_enter, me_M_entered, me_M_fourAt, me_M_half, me_M_joined, trivial⟩, trivial⟩
theorem cst_ok : t_cst.AllP (fun x n => ∃ v : Int32, v.toInt = n ∧ Cond.constant (cname (x / 4096)) (x % 4096) v ∈ TBg) := ⟨⟨⟨1000000, by decide, k_3_124⟩, ⟨1000000000, by decide, k_3_125⟩, ⟨2147483647, by decide, k_8_124⟩, trivial⟩, ⟨⟨2147483645, by decide, k_8_146⟩, ⟨1664525, by decide, k_5_167⟩, ⟨1013904223, by decide, k_5_168⟩, trivial⟩, ⟨⟨65535, by decide, k_8_59⟩, ⟨1000000000, by decide, k_10_165⟩, ⟨1664525, by decide, k_10_187⟩, trivial⟩, ⟨⟨1013904223, by decide, k_10_188⟩, trivial⟩, trivial⟩
theorem cstl_ok : t_cstl.AllP (fun x n => ∃ v : Int64, v.toInt = n ∧ Cond.constantLong (cname (x / 4096)) (x % 4096) v ∈ TBg) := ⟨⟨⟨(-1), by decide, k_4_3⟩, ⟨(-11), by decide, k_4_4⟩, ⟨(-14), by decide, k_4_5⟩, ⟨(-12), by decide, k_4_6⟩, ⟨(-3), by decide, k_8_8⟩, ⟨(-2), by decide, k_8_25⟩, ⟨2147483647, by decide, k_8_129⟩, ⟨1000, by decide, k_8_138⟩, trivial⟩, ⟨⟨10, by decide, k_4_106⟩, ⟨48, by decide, k_4_107⟩, ⟨9223372036854775807, by decide, k_3_236⟩, ⟨9218868437227405312, by decide, k_3_237⟩, ⟨9221120237041090560, by decide, k_4_131⟩, ⟨(-9223372036854775808), by decide, k_4_115⟩, ⟨4503599627370495, by decide, k_4_135⟩, ⟨4503599627370496, by decide, k_4_136⟩, trivial⟩, ⟨⟨4611686018427387904, by decide, k_4_120⟩, ⟨(-4332462841530417152), by decide, k_4_116⟩, ⟨134217727, by decide, k_6_33⟩, ⟨35184372088831, by decide, k_6_34⟩, ⟨9221120237041090560, by decide, k_3_238⟩, ⟨1000000000, by decide, k_10_216⟩, ⟨9223372036854775807, by decide, k_11_26⟩, ⟨9218868437227405312, by decide, k_11_27⟩, trivial⟩, ⟨⟨4503599627370495, by decide, k_11_139⟩, ⟨2047, by decide, k_11_152⟩, ⟨4503599627370496, by decide, k_11_153⟩, ⟨(-9223372036854775808), by decide, k_11_135⟩, ⟨3, by decide, k_11_18⟩, ⟨9221120237041090560, by decide, k_11_28⟩, ⟨134217727, by decide, k_12_86⟩, ⟨18014398509481983, by decide, k_12_87⟩, trivial⟩, ⟨⟨2, by decide, k_12_61⟩, ⟨(-1), by decide, k_11_33⟩, ⟨8, by decide, k_10_151⟩, ⟨255, by decide, k_10_155⟩, ⟨1000000, by decide, k_10_164⟩, ⟨6, by decide, k_10_170⟩, ⟨5, by decide, k_10_175⟩, ⟨7, by decide, k_11_17⟩, trivial⟩, ⟨⟨(-11), by decide, k_11_34⟩, ⟨(-14), by decide, k_11_35⟩, ⟨(-12), by decide, k_11_36⟩, ⟨4, by decide, k_11_69⟩, ⟨256, by decide, k_11_116⟩, ⟨10, by decide, k_11_121⟩, ⟨48, by decide, k_11_122⟩, ⟨97, by decide, k_11_217⟩, trivial⟩, ⟨⟨104, by decide, k_11_218⟩, ⟨19, by decide, k_12_66⟩, ⟨24, by decide, k_12_147⟩, ⟨20000, by decide, k_12_216⟩, ⟨20, by decide, k_13_17⟩, ⟨11, by decide, k_13_58⟩, ⟨15, by decide, k_13_59⟩, ⟨13, by decide, k_13_84⟩, trivial⟩, ⟨⟨9, by decide, k_13_89⟩, ⟨2000, by decide, k_13_118⟩, ⟨2147483647, by decide, k_13_168⟩, ⟨2147483645, by decide, k_13_164⟩, ⟨(-3), by decide, k_13_143⟩, ⟨(-2), by decide, k_13_169⟩, ⟨65535, by decide, k_13_182⟩, ⟨1000, by decide, k_13_195⟩, trivial⟩, trivial⟩
theorem fld_ok : t_fld.AllP (fun x e => e.2.1 < 1024 ∧ ∃ ty fin, xFl (cname (x / 4096)) (x % 4096) e.1 e.2.1 ty fin ∧ (e.2.2 = 0 → ty = .int ∧ fin = false) ∧ (e.2.2 = 1 → ty = .boolean ∧ fin = false) ∧ (e.2.2 = 2 → ty = .long ∧ fin = false)) := ⟨⟨⟨by decide, _, _, fl_H_9, fun q => absurd q (by decide), fun q => absurd q (by decide), fun q => absurd q (by decide)⟩, ⟨by decide, _, _, fl_H_13, fun q => absurd q (by decide), fun q => absurd q (by decide), fun q => absurd q (by decide)⟩, ⟨by decide, _, _, fl_H_16, fun q => absurd q (by decide), fun q => absurd q (by decide), fun q => absurd q (by decide)⟩, ⟨by decide, _, _, fl_H_19, fun q => absurd q (by decide), fun q => absurd q (by decide), fun q => absurd q (by decide)⟩, ⟨by decide, _, _, fl_H_25, fun q => absurd q (by decide), fun q => absurd q (by decide), fun q => absurd q (by decide)⟩, ⟨by decide, _, _, fl_H_32, fun q => absurd q (by decide), fun q => absurd q (by decide), fun q => absurd q (by decide)⟩, ⟨by decide, _, _, fl_H_41, fun q => absurd q (by decide), fun q => absurd q (by decide), fun q => absurd q (by decide)⟩, ⟨by decide, _, _, fl_H_50, fun q => absurd q (by decide), fun q => absurd q (by decide), fun q => absurd q (by decide)⟩, ⟨by decide, _, _, fl_H_59, fun q => absurd q (by decide), fun q => absurd q (by decide), fun q => absurd q (by decide)⟩, ⟨by decide, _, _, fl_H_66, fun q => absurd q (by decide), fun q => absurd q (by decide), fun q => absurd q (by decide)⟩, ⟨by decide, _, _, fl_H_75, fun q => absurd q (by decide), fun q => absurd q (by decide), fun q => absurd q (by decide)⟩, ⟨by decide, _, _, fl_H_82, fun q => absurd q (by decide), fun q => absurd q (by decide), fun q => absurd q (by decide)⟩, ⟨by decide, _, _, fl_H_89, fun q => absurd q (by decide), fun q => absurd q (by decide), fun q => absurd q (by decide)⟩, ⟨by decide, _, _, fl_H_96, fun q => absurd q (by decide), fun q => absurd q (by decide), fun q => absurd q (by decide)⟩, ⟨by decide, _, _, fl_H_100, fun _ => ⟨rfl, rfl⟩, fun q => absurd q (by decide), fun q => absurd q (by decide)⟩, ⟨by decide, _, _, fl_H_105, fun _ => ⟨rfl, rfl⟩, fun q => absurd q (by decide), fun q => absurd q (by decide)⟩, ⟨by decide, _, _, fl_H_109, fun _ => ⟨rfl, rfl⟩, fun q => absurd q (by decide), fun q => absurd q (by decide)⟩, ⟨by decide, _, _, fl_H_112, fun _ => ⟨rfl, rfl⟩, fun q => absurd q (by decide), fun q => absurd q (by decide)⟩, trivial⟩, ⟨⟨by decide, _, _, fl_H_129, fun _ => ⟨rfl, rfl⟩, fun q => absurd q (by decide), fun q => absurd q (by decide)⟩, ⟨by decide, _, _, fl_H_153, fun q => absurd q (by decide), fun q => absurd q (by decide), fun q => absurd q (by decide)⟩, ⟨by decide, _, _, fl_H_173, fun q => absurd q (by decide), fun q => absurd q (by decide), fun q => absurd q (by decide)⟩, ⟨by decide, _, _, fl_H_176, fun q => absurd q (by decide), fun q => absurd q (by decide), fun q => absurd q (by decide)⟩, ⟨by decide, _, _, fl_H_191, fun q => absurd q (by decide), fun q => absurd q (by decide), fun q => absurd q (by decide)⟩, ⟨by decide, _, _, fl_H_205, fun _ => ⟨rfl, rfl⟩, fun q => absurd q (by decide), fun q => absurd q (by decide)⟩, ⟨by decide, _, _, fl_H_213, fun q => absurd q (by decide), fun q => absurd q (by decide), fun q => absurd q (by decide)⟩, ⟨by decide, _, _, fl_H_216, fun q => absurd q (by decide), fun q => absurd q (by decide), fun q => absurd q (by decide)⟩, ⟨by decide, _, _, fl_H_223, fun q => absurd q (by decide), fun q => absurd q (by decide), fun q => absurd q (by decide)⟩, ⟨by decide, _, _, fl_H_226, fun q => absurd q (by decide), fun q => absurd q (by decide), fun q => absurd q (by decide)⟩, ⟨by decide, _, _, fl_H_246, fun _ => ⟨rfl, rfl⟩, fun q => absurd q (by decide), fun q => absurd q (by decide)⟩, ⟨by decide, _, _, fl_H_252, fun q => absurd q (by decide), fun q => absurd q (by decide), fun q => absurd q (by decide)⟩, ⟨by decide, _, _, fl_H_255, fun _ => ⟨rfl, rfl⟩, fun q => absurd q (by decide), fun q => absurd q (by decide)⟩, ⟨by decide, _, _, fl_H_277, fun q => absurd q (by decide), fun _ => ⟨rfl, rfl⟩, fun q => absurd q (by decide)⟩, ⟨by decide, _, _, fl_H_281, fun q => absurd q (by decide), fun q => absurd q (by decide), fun q => absurd q (by decide)⟩, ⟨by decide, _, _, fl_H_291, fun _ => ⟨rfl, rfl⟩, fun q => absurd q (by decide), fun q => absurd q (by decide)⟩, ⟨by decide, _, _, fl_H_297, fun q => absurd q (by decide), fun _ => ⟨rfl, rfl⟩, fun q => absurd q (by decide)⟩, ⟨by decide, _, _, fl_H_300, fun q => absurd q (by decide), fun q => absurd q (by decide), fun q => absurd q (by decide)⟩, trivial⟩, ⟨⟨by decide, _, _, fl_H_306, fun _ => ⟨rfl, rfl⟩, fun q => absurd q (by decide), fun q => absurd q (by decide)⟩, ⟨by decide, _, _, fl_H_321, fun _ => ⟨rfl, rfl⟩, fun q => absurd q (by decide), fun q => absurd q (by decide)⟩, ⟨by decide, _, _, fl_H_327, fun _ => ⟨rfl, rfl⟩, fun q => absurd q (by decide), fun q => absurd q (by decide)⟩, ⟨by decide, _, _, fl_H_336, fun q => absurd q (by decide), fun q => absurd q (by decide), fun q => absurd q (by decide)⟩, ⟨by decide, _, _, fl_H_339, fun q => absurd q (by decide), fun q => absurd q (by decide), fun q => absurd q (by decide)⟩, ⟨by decide, _, _, fl_H_345, fun _ => ⟨rfl, rfl⟩, fun q => absurd q (by decide), fun q => absurd q (by decide)⟩, ⟨by decide, _, _, fl_H_347, fun q => absurd q (by decide), fun q => absurd q (by decide), fun q => absurd q (by decide)⟩, ⟨by decide, _, _, fl_H_353, fun q => absurd q (by decide), fun q => absurd q (by decide), fun q => absurd q (by decide)⟩, ⟨by decide, _, _, fl_H_371, fun q => absurd q (by decide), fun q => absurd q (by decide), fun q => absurd q (by decide)⟩, ⟨by decide, _, _, fl_H_374, fun q => absurd q (by decide), fun q => absurd q (by decide), fun q => absurd q (by decide)⟩, ⟨by decide, _, _, fl_H_386, fun _ => ⟨rfl, rfl⟩, fun q => absurd q (by decide), fun q => absurd q (by decide)⟩, ⟨by decide, _, _, fl_H_397, fun _ => ⟨rfl, rfl⟩, fun q => absurd q (by decide), fun q => absurd q (by decide)⟩, ⟨by decide, _, _, fl_H_402, fun q => absurd q (by decide), fun q => absurd q (by decide), fun q => absurd q (by decide)⟩, ⟨by decide, _, _, fl_H_408, fun _ => ⟨rfl, rfl⟩, fun q => absurd q (by decide), fun q => absurd q (by decide)⟩, ⟨by decide, _, _, fl_H_411, fun q => absurd q (by decide), fun q => absurd q (by decide), fun q => absurd q (by decide)⟩, ⟨by decide, _, _, fl_H_430, fun q => absurd q (by decide), fun q => absurd q (by decide), fun q => absurd q (by decide)⟩, ⟨by decide, _, _, fl_H_433, fun q => absurd q (by decide), fun q => absurd q (by decide), fun q => absurd q (by decide)⟩, ⟨by decide, _, _, fl_H_442, fun _ => ⟨rfl, rfl⟩, fun q => absurd q (by decide), fun q => absurd q (by decide)⟩, trivial⟩, ⟨⟨by decide, _, _, fl_H_454, fun q => absurd q (by decide), fun q => absurd q (by decide), fun q => absurd q (by decide)⟩, ⟨by decide, _, _, fl_H_460, fun q => absurd q (by decide), fun q => absurd q (by decide), fun q => absurd q (by decide)⟩, ⟨by decide, _, _, fl_H_463, fun q => absurd q (by decide), fun q => absurd q (by decide), fun q => absurd q (by decide)⟩, ⟨by decide, _, _, fl_H_466, fun q => absurd q (by decide), fun q => absurd q (by decide), fun q => absurd q (by decide)⟩, ⟨by decide, _, _, fl_H_469, fun q => absurd q (by decide), fun q => absurd q (by decide), fun q => absurd q (by decide)⟩, ⟨by decide, _, _, fl_H_482, fun q => absurd q (by decide), fun q => absurd q (by decide), fun q => absurd q (by decide)⟩, ⟨by decide, _, _, fl_H_487, fun q => absurd q (by decide), fun q => absurd q (by decide), fun q => absurd q (by decide)⟩, ⟨by decide, _, _, fl_H_510, fun _ => ⟨rfl, rfl⟩, fun q => absurd q (by decide), fun q => absurd q (by decide)⟩, ⟨by decide, _, _, fl_H_516, fun _ => ⟨rfl, rfl⟩, fun q => absurd q (by decide), fun q => absurd q (by decide)⟩, ⟨by decide, _, _, fl_H_525, fun q => absurd q (by decide), fun q => absurd q (by decide), fun q => absurd q (by decide)⟩, ⟨by decide, _, _, fl_H_533, fun q => absurd q (by decide), fun q => absurd q (by decide), fun q => absurd q (by decide)⟩, ⟨by decide, _, _, fl_H_556, fun _ => ⟨rfl, rfl⟩, fun q => absurd q (by decide), fun q => absurd q (by decide)⟩, ⟨by decide, _, _, fl_Fl_11, fun q => absurd q (by decide), fun q => absurd q (by decide), fun q => absurd q (by decide)⟩, ⟨by decide, _, _, fl_Fl_15, fun q => absurd q (by decide), fun q => absurd q (by decide), fun q => absurd q (by decide)⟩, ⟨by decide, _, _, fl_Fl_18, fun q => absurd q (by decide), fun q => absurd q (by decide), fun q => absurd q (by decide)⟩, ⟨by decide, _, _, fl_Fl_21, fun q => absurd q (by decide), fun q => absurd q (by decide), fun q => absurd q (by decide)⟩, ⟨by decide, _, _, fl_Fl_24, fun q => absurd q (by decide), fun q => absurd q (by decide), fun q => absurd q (by decide)⟩, ⟨by decide, _, _, fl_Fl_27, fun q => absurd q (by decide), fun q => absurd q (by decide), fun q => absurd q (by decide)⟩, trivial⟩, ⟨⟨by decide, _, _, fl_Fl_30, fun q => absurd q (by decide), fun q => absurd q (by decide), fun q => absurd q (by decide)⟩, ⟨by decide, _, _, fl_Fl_33, fun q => absurd q (by decide), fun q => absurd q (by decide), fun q => absurd q (by decide)⟩, ⟨by decide, _, _, fl_Fl_36, fun q => absurd q (by decide), fun q => absurd q (by decide), fun q => absurd q (by decide)⟩, ⟨by decide, _, _, fl_Fl_39, fun q => absurd q (by decide), fun q => absurd q (by decide), fun q => absurd q (by decide)⟩, ⟨by decide, _, _, fl_Fl_49, fun _ => ⟨rfl, rfl⟩, fun q => absurd q (by decide), fun q => absurd q (by decide)⟩, ⟨by decide, _, _, fl_Fl_63, fun _ => ⟨rfl, rfl⟩, fun q => absurd q (by decide), fun q => absurd q (by decide)⟩, ⟨by decide, _, _, fl_Ga_11, fun q => absurd q (by decide), fun q => absurd q (by decide), fun q => absurd q (by decide)⟩, ⟨by decide, _, _, fl_Ga_15, fun q => absurd q (by decide), fun q => absurd q (by decide), fun q => absurd q (by decide)⟩, ⟨by decide, _, _, fl_Ga_18, fun q => absurd q (by decide), fun q => absurd q (by decide), fun q => absurd q (by decide)⟩, ⟨by decide, _, _, fl_Ga_21, fun q => absurd q (by decide), fun q => absurd q (by decide), fun q => absurd q (by decide)⟩, ⟨by decide, _, _, fl_Ga_24, fun q => absurd q (by decide), fun q => absurd q (by decide), fun q => absurd q (by decide)⟩, ⟨by decide, _, _, fl_Ga_27, fun q => absurd q (by decide), fun q => absurd q (by decide), fun q => absurd q (by decide)⟩, ⟨by decide, _, _, fl_Ga_30, fun q => absurd q (by decide), fun q => absurd q (by decide), fun q => absurd q (by decide)⟩, ⟨by decide, _, _, fl_Ga_33, fun q => absurd q (by decide), fun q => absurd q (by decide), fun q => absurd q (by decide)⟩, ⟨by decide, _, _, fl_Ga_36, fun q => absurd q (by decide), fun q => absurd q (by decide), fun q => absurd q (by decide)⟩, ⟨by decide, _, _, fl_Ga_39, fun q => absurd q (by decide), fun q => absurd q (by decide), fun q => absurd q (by decide)⟩, ⟨by decide, _, _, fl_Ga_42, fun q => absurd q (by decide), fun q => absurd q (by decide), fun q => absurd q (by decide)⟩, ⟨by decide, _, _, fl_Ga_50, fun _ => ⟨rfl, rfl⟩, fun q => absurd q (by decide), fun q => absurd q (by decide)⟩, trivial⟩, ⟨⟨by decide, _, _, fl_Ga_54, fun _ => ⟨rfl, rfl⟩, fun q => absurd q (by decide), fun q => absurd q (by decide)⟩, ⟨by decide, _, _, fl_Ga_57, fun _ => ⟨rfl, rfl⟩, fun q => absurd q (by decide), fun q => absurd q (by decide)⟩, ⟨by decide, _, _, fl_Gu_13, fun q => absurd q (by decide), fun q => absurd q (by decide), fun q => absurd q (by decide)⟩, ⟨by decide, _, _, fl_Gu_17, fun q => absurd q (by decide), fun q => absurd q (by decide), fun q => absurd q (by decide)⟩, ⟨by decide, _, _, fl_Gu_21, fun q => absurd q (by decide), fun q => absurd q (by decide), fun q => absurd q (by decide)⟩, ⟨by decide, _, _, fl_Gu_24, fun q => absurd q (by decide), fun q => absurd q (by decide), fun q => absurd q (by decide)⟩, ⟨by decide, _, _, fl_Gu_29, fun q => absurd q (by decide), fun q => absurd q (by decide), fun q => absurd q (by decide)⟩, ⟨by decide, _, _, fl_Gu_32, fun q => absurd q (by decide), fun q => absurd q (by decide), fun q => absurd q (by decide)⟩, ⟨by decide, _, _, fl_Gu_35, fun q => absurd q (by decide), fun q => absurd q (by decide), fun q => absurd q (by decide)⟩, ⟨by decide, _, _, fl_Gu_45, fun _ => ⟨rfl, rfl⟩, fun q => absurd q (by decide), fun q => absurd q (by decide)⟩, ⟨by decide, _, _, fl_Gu_49, fun q => absurd q (by decide), fun q => absurd q (by decide), fun _ => ⟨rfl, rfl⟩⟩, ⟨by decide, _, _, fl_Ju_9, fun q => absurd q (by decide), fun q => absurd q (by decide), fun q => absurd q (by decide)⟩, ⟨by decide, _, _, fl_Ju_15, fun q => absurd q (by decide), fun q => absurd q (by decide), fun q => absurd q (by decide)⟩, ⟨by decide, _, _, fl_Ju_19, fun q => absurd q (by decide), fun q => absurd q (by decide), fun q => absurd q (by decide)⟩, ⟨by decide, _, _, fl_Ju_23, fun q => absurd q (by decide), fun q => absurd q (by decide), fun q => absurd q (by decide)⟩, ⟨by decide, _, _, fl_Ju_27, fun q => absurd q (by decide), fun q => absurd q (by decide), fun q => absurd q (by decide)⟩, ⟨by decide, _, _, fl_Ju_31, fun q => absurd q (by decide), fun q => absurd q (by decide), fun q => absurd q (by decide)⟩, ⟨by decide, _, _, fl_Ju_35, fun q => absurd q (by decide), fun q => absurd q (by decide), fun q => absurd q (by decide)⟩, trivial⟩, ⟨⟨by decide, _, _, fl_Ju_38, fun q => absurd q (by decide), fun q => absurd q (by decide), fun q => absurd q (by decide)⟩, ⟨by decide, _, _, fl_Ju_41, fun q => absurd q (by decide), fun q => absurd q (by decide), fun q => absurd q (by decide)⟩, ⟨by decide, _, _, fl_Ju_44, fun _ => ⟨rfl, rfl⟩, fun q => absurd q (by decide), fun q => absurd q (by decide)⟩, ⟨by decide, _, _, fl_Ju_48, fun _ => ⟨rfl, rfl⟩, fun q => absurd q (by decide), fun q => absurd q (by decide)⟩, ⟨by decide, _, _, fl_Ju_51, fun _ => ⟨rfl, rfl⟩, fun q => absurd q (by decide), fun q => absurd q (by decide)⟩, ⟨by decide, _, _, fl_Ju_54, fun _ => ⟨rfl, rfl⟩, fun q => absurd q (by decide), fun q => absurd q (by decide)⟩, ⟨by decide, _, _, fl_Ju_67, fun q => absurd q (by decide), fun _ => ⟨rfl, rfl⟩, fun q => absurd q (by decide)⟩, ⟨by decide, _, _, fl_Ju_71, fun _ => ⟨rfl, rfl⟩, fun q => absurd q (by decide), fun q => absurd q (by decide)⟩, ⟨by decide, _, _, fl_Ju_74, fun q => absurd q (by decide), fun q => absurd q (by decide), fun q => absurd q (by decide)⟩, ⟨by decide, _, _, fl_Ju_86, fun q => absurd q (by decide), fun q => absurd q (by decide), fun q => absurd q (by decide)⟩, ⟨by decide, _, _, fl_Ju_92, fun q => absurd q (by decide), fun q => absurd q (by decide), fun q => absurd q (by decide)⟩, ⟨by decide, _, _, fl_Ju_95, fun _ => ⟨rfl, rfl⟩, fun q => absurd q (by decide), fun q => absurd q (by decide)⟩, ⟨by decide, _, _, fl_Ju_121, fun q => absurd q (by decide), fun q => absurd q (by decide), fun q => absurd q (by decide)⟩, ⟨by decide, _, _, fl_Ju_130, fun _ => ⟨rfl, rfl⟩, fun q => absurd q (by decide), fun q => absurd q (by decide)⟩, ⟨by decide, _, _, fl_Ju_133, fun _ => ⟨rfl, rfl⟩, fun q => absurd q (by decide), fun q => absurd q (by decide)⟩, ⟨by decide, _, _, fl_Ju_136, fun q => absurd q (by decide), fun q => absurd q (by decide), fun q => absurd q (by decide)⟩, ⟨by decide, _, _, fl_Ju_142, fun q => absurd q (by decide), fun q => absurd q (by decide), fun q => absurd q (by decide)⟩, ⟨by decide, _, _, fl_Ju_187, fun q => absurd q (by decide), fun q => absurd q (by decide), fun q => absurd q (by decide)⟩, trivial⟩, ⟨⟨by decide, _, _, fl_Ju_190, fun q => absurd q (by decide), fun q => absurd q (by decide), fun q => absurd q (by decide)⟩, ⟨by decide, _, _, fl_Ju_199, fun q => absurd q (by decide), fun q => absurd q (by decide), fun q => absurd q (by decide)⟩, ⟨by decide, _, _, fl_Ju_247, fun _ => ⟨rfl, rfl⟩, fun q => absurd q (by decide), fun q => absurd q (by decide)⟩, ⟨by decide, _, _, fl_Ju_252, fun _ => ⟨rfl, rfl⟩, fun q => absurd q (by decide), fun q => absurd q (by decide)⟩, ⟨by decide, _, _, fl_Ju_262, fun _ => ⟨rfl, rfl⟩, fun q => absurd q (by decide), fun q => absurd q (by decide)⟩, ⟨by decide, _, _, fl_Ju_265, fun q => absurd q (by decide), fun _ => ⟨rfl, rfl⟩, fun q => absurd q (by decide)⟩, ⟨by decide, _, _, fl_Le_11, fun q => absurd q (by decide), fun q => absurd q (by decide), fun q => absurd q (by decide)⟩, ⟨by decide, _, _, fl_Le_15, fun q => absurd q (by decide), fun q => absurd q (by decide), fun q => absurd q (by decide)⟩, ⟨by decide, _, _, fl_Le_19, fun q => absurd q (by decide), fun q => absurd q (by decide), fun q => absurd q (by decide)⟩, ⟨by decide, _, _, fl_Le_23, fun q => absurd q (by decide), fun q => absurd q (by decide), fun q => absurd q (by decide)⟩, ⟨by decide, _, _, fl_Le_26, fun q => absurd q (by decide), fun q => absurd q (by decide), fun q => absurd q (by decide)⟩, ⟨by decide, _, _, fl_Le_29, fun q => absurd q (by decide), fun q => absurd q (by decide), fun q => absurd q (by decide)⟩, ⟨by decide, _, _, fl_Le_32, fun q => absurd q (by decide), fun q => absurd q (by decide), fun q => absurd q (by decide)⟩, ⟨by decide, _, _, fl_Le_35, fun _ => ⟨rfl, rfl⟩, fun q => absurd q (by decide), fun q => absurd q (by decide)⟩, ⟨by decide, _, _, fl_Le_43, fun q => absurd q (by decide), fun q => absurd q (by decide), fun q => absurd q (by decide)⟩, ⟨by decide, _, _, fl_Le_59, fun _ => ⟨rfl, rfl⟩, fun q => absurd q (by decide), fun q => absurd q (by decide)⟩, ⟨by decide, _, _, fl_Le_62, fun q => absurd q (by decide), fun _ => ⟨rfl, rfl⟩, fun q => absurd q (by decide)⟩, ⟨by decide, _, _, fl_Le_66, fun _ => ⟨rfl, rfl⟩, fun q => absurd q (by decide), fun q => absurd q (by decide)⟩, trivial⟩, ⟨⟨by decide, _, _, fl_Po_11, fun q => absurd q (by decide), fun q => absurd q (by decide), fun q => absurd q (by decide)⟩, ⟨by decide, _, _, fl_Po_17, fun q => absurd q (by decide), fun q => absurd q (by decide), fun q => absurd q (by decide)⟩, ⟨by decide, _, _, fl_Po_21, fun q => absurd q (by decide), fun q => absurd q (by decide), fun q => absurd q (by decide)⟩, ⟨by decide, _, _, fl_Po_25, fun q => absurd q (by decide), fun q => absurd q (by decide), fun q => absurd q (by decide)⟩, ⟨by decide, _, _, fl_Po_28, fun q => absurd q (by decide), fun q => absurd q (by decide), fun q => absurd q (by decide)⟩, ⟨by decide, _, _, fl_Po_31, fun q => absurd q (by decide), fun q => absurd q (by decide), fun q => absurd q (by decide)⟩, ⟨by decide, _, _, fl_Po_34, fun q => absurd q (by decide), fun q => absurd q (by decide), fun q => absurd q (by decide)⟩, ⟨by decide, _, _, fl_Po_38, fun q => absurd q (by decide), fun q => absurd q (by decide), fun q => absurd q (by decide)⟩, ⟨by decide, _, _, fl_Po_41, fun q => absurd q (by decide), fun q => absurd q (by decide), fun q => absurd q (by decide)⟩, ⟨by decide, _, _, fl_Po_44, fun q => absurd q (by decide), fun q => absurd q (by decide), fun q => absurd q (by decide)⟩, ⟨by decide, _, _, fl_Po_47, fun q => absurd q (by decide), fun q => absurd q (by decide), fun q => absurd q (by decide)⟩, ⟨by decide, _, _, fl_Po_56, fun _ => ⟨rfl, rfl⟩, fun q => absurd q (by decide), fun q => absurd q (by decide)⟩, ⟨by decide, _, _, fl_Po_63, fun _ => ⟨rfl, rfl⟩, fun q => absurd q (by decide), fun q => absurd q (by decide)⟩, ⟨by decide, _, _, fl_Po_66, fun _ => ⟨rfl, rfl⟩, fun q => absurd q (by decide), fun q => absurd q (by decide)⟩, ⟨by decide, _, _, fl_Po_69, fun _ => ⟨rfl, rfl⟩, fun q => absurd q (by decide), fun q => absurd q (by decide)⟩, ⟨by decide, _, _, fl_Po_80, fun _ => ⟨rfl, rfl⟩, fun q => absurd q (by decide), fun q => absurd q (by decide)⟩, ⟨by decide, _, _, fl_Po_86, fun _ => ⟨rfl, rfl⟩, fun q => absurd q (by decide), fun q => absurd q (by decide)⟩, ⟨by decide, _, _, fl_Ro_11, fun q => absurd q (by decide), fun q => absurd q (by decide), fun q => absurd q (by decide)⟩, trivial⟩, ⟨⟨by decide, _, _, fl_Ro_15, fun q => absurd q (by decide), fun q => absurd q (by decide), fun q => absurd q (by decide)⟩, ⟨by decide, _, _, fl_Ro_19, fun q => absurd q (by decide), fun q => absurd q (by decide), fun q => absurd q (by decide)⟩, ⟨by decide, _, _, fl_Ro_22, fun q => absurd q (by decide), fun q => absurd q (by decide), fun q => absurd q (by decide)⟩, ⟨by decide, _, _, fl_Ro_25, fun q => absurd q (by decide), fun q => absurd q (by decide), fun q => absurd q (by decide)⟩, ⟨by decide, _, _, fl_Ro_28, fun q => absurd q (by decide), fun q => absurd q (by decide), fun q => absurd q (by decide)⟩, ⟨by decide, _, _, fl_Ro_33, fun q => absurd q (by decide), fun q => absurd q (by decide), fun q => absurd q (by decide)⟩, ⟨by decide, _, _, fl_Ro_36, fun _ => ⟨rfl, rfl⟩, fun q => absurd q (by decide), fun q => absurd q (by decide)⟩, ⟨by decide, _, _, fl_Ro_40, fun _ => ⟨rfl, rfl⟩, fun q => absurd q (by decide), fun q => absurd q (by decide)⟩, ⟨by decide, _, _, fl_Ro_43, fun _ => ⟨rfl, rfl⟩, fun q => absurd q (by decide), fun q => absurd q (by decide)⟩, ⟨by decide, _, _, fl_Ro_60, fun _ => ⟨rfl, rfl⟩, fun q => absurd q (by decide), fun q => absurd q (by decide)⟩, ⟨by decide, _, _, fl_Ro_63, fun _ => ⟨rfl, rfl⟩, fun q => absurd q (by decide), fun q => absurd q (by decide)⟩, ⟨by decide, _, _, fl_Th_11, fun q => absurd q (by decide), fun q => absurd q (by decide), fun q => absurd q (by decide)⟩, ⟨by decide, _, _, fl_Th_15, fun q => absurd q (by decide), fun q => absurd q (by decide), fun q => absurd q (by decide)⟩, ⟨by decide, _, _, fl_Th_18, fun q => absurd q (by decide), fun q => absurd q (by decide), fun q => absurd q (by decide)⟩, ⟨by decide, _, _, fl_Th_22, fun q => absurd q (by decide), fun q => absurd q (by decide), fun q => absurd q (by decide)⟩, ⟨by decide, _, _, fl_Th_25, fun q => absurd q (by decide), fun q => absurd q (by decide), fun q => absurd q (by decide)⟩, ⟨by decide, _, _, fl_Th_28, fun q => absurd q (by decide), fun q => absurd q (by decide), fun q => absurd q (by decide)⟩, ⟨by decide, _, _, fl_Th_31, fun _ => ⟨rfl, rfl⟩, fun q => absurd q (by decide), fun q => absurd q (by decide)⟩, trivial⟩, ⟨⟨by decide, _, _, fl_Wh_13, fun q => absurd q (by decide), fun q => absurd q (by decide), fun q => absurd q (by decide)⟩, ⟨by decide, _, _, fl_Wh_17, fun q => absurd q (by decide), fun q => absurd q (by decide), fun q => absurd q (by decide)⟩, ⟨by decide, _, _, fl_Wh_20, fun q => absurd q (by decide), fun q => absurd q (by decide), fun q => absurd q (by decide)⟩, ⟨by decide, _, _, fl_Wh_23, fun q => absurd q (by decide), fun q => absurd q (by decide), fun q => absurd q (by decide)⟩, ⟨by decide, _, _, fl_Wh_27, fun _ => ⟨rfl, rfl⟩, fun q => absurd q (by decide), fun q => absurd q (by decide)⟩, ⟨by decide, _, _, fl_Wh_31, fun _ => ⟨rfl, rfl⟩, fun q => absurd q (by decide), fun q => absurd q (by decide)⟩, ⟨by decide, _, _, fl_Wh_41, fun _ => ⟨rfl, rfl⟩, fun q => absurd q (by decide), fun q => absurd q (by decide)⟩, ⟨by decide, _, _, fl_Wo_9, fun q => absurd q (by decide), fun q => absurd q (by decide), fun q => absurd q (by decide)⟩, ⟨by decide, _, _, fl_Wo_15, fun q => absurd q (by decide), fun q => absurd q (by decide), fun q => absurd q (by decide)⟩, ⟨by decide, _, _, fl_Wo_19, fun q => absurd q (by decide), fun q => absurd q (by decide), fun q => absurd q (by decide)⟩, ⟨by decide, _, _, fl_Wo_22, fun q => absurd q (by decide), fun q => absurd q (by decide), fun q => absurd q (by decide)⟩, ⟨by decide, _, _, fl_Wo_25, fun q => absurd q (by decide), fun q => absurd q (by decide), fun q => absurd q (by decide)⟩, ⟨by decide, _, _, fl_Wo_28, fun q => absurd q (by decide), fun q => absurd q (by decide), fun q => absurd q (by decide)⟩, ⟨by decide, _, _, fl_Wo_31, fun q => absurd q (by decide), fun q => absurd q (by decide), fun q => absurd q (by decide)⟩, ⟨by decide, _, _, fl_Wo_34, fun q => absurd q (by decide), fun q => absurd q (by decide), fun q => absurd q (by decide)⟩, ⟨by decide, _, _, fl_Wo_37, fun q => absurd q (by decide), fun q => absurd q (by decide), fun q => absurd q (by decide)⟩, ⟨by decide, _, _, fl_Wo_40, fun q => absurd q (by decide), fun q => absurd q (by decide), fun q => absurd q (by decide)⟩, ⟨by decide, _, _, fl_Wo_43, fun q => absurd q (by decide), fun q => absurd q (by decide), fun q => absurd q (by decide)⟩, trivial⟩, ⟨⟨by decide, _, _, fl_Wo_46, fun _ => ⟨rfl, rfl⟩, fun q => absurd q (by decide), fun q => absurd q (by decide)⟩, ⟨by decide, _, _, fl_Wo_50, fun _ => ⟨rfl, rfl⟩, fun q => absurd q (by decide), fun q => absurd q (by decide)⟩, ⟨by decide, _, _, fl_Wo_59, fun _ => ⟨rfl, rfl⟩, fun q => absurd q (by decide), fun q => absurd q (by decide)⟩, ⟨by decide, _, _, fl_Wo_62, fun _ => ⟨rfl, rfl⟩, fun q => absurd q (by decide), fun q => absurd q (by decide)⟩, ⟨by decide, _, _, fl_M_7, fun q => absurd q (by decide), fun q => absurd q (by decide), fun q => absurd q (by decide)⟩, ⟨by decide, _, _, fl_M_13, fun q => absurd q (by decide), fun q => absurd q (by decide), fun q => absurd q (by decide)⟩, ⟨by decide, _, _, fl_M_16, fun q => absurd q (by decide), fun q => absurd q (by decide), fun q => absurd q (by decide)⟩, ⟨by decide, _, _, fl_M_19, fun q => absurd q (by decide), fun q => absurd q (by decide), fun q => absurd q (by decide)⟩, ⟨by decide, _, _, fl_M_22, fun q => absurd q (by decide), fun q => absurd q (by decide), fun q => absurd q (by decide)⟩, ⟨by decide, _, _, fl_M_25, fun q => absurd q (by decide), fun q => absurd q (by decide), fun q => absurd q (by decide)⟩, ⟨by decide, _, _, fl_M_28, fun q => absurd q (by decide), fun q => absurd q (by decide), fun q => absurd q (by decide)⟩, ⟨by decide, _, _, fl_M_31, fun q => absurd q (by decide), fun q => absurd q (by decide), fun q => absurd q (by decide)⟩, ⟨by decide, _, _, fl_M_34, fun q => absurd q (by decide), fun q => absurd q (by decide), fun q => absurd q (by decide)⟩, ⟨by decide, _, _, fl_M_37, fun q => absurd q (by decide), fun q => absurd q (by decide), fun q => absurd q (by decide)⟩, ⟨by decide, _, _, fl_M_41, fun q => absurd q (by decide), fun q => absurd q (by decide), fun q => absurd q (by decide)⟩, ⟨by decide, _, _, fl_M_44, fun q => absurd q (by decide), fun q => absurd q (by decide), fun q => absurd q (by decide)⟩, ⟨by decide, _, _, fl_M_47, fun q => absurd q (by decide), fun q => absurd q (by decide), fun q => absurd q (by decide)⟩, ⟨by decide, _, _, fl_M_51, fun q => absurd q (by decide), fun q => absurd q (by decide), fun q => absurd q (by decide)⟩, trivial⟩, ⟨⟨by decide, _, _, fl_M_54, fun _ => ⟨rfl, rfl⟩, fun q => absurd q (by decide), fun q => absurd q (by decide)⟩, ⟨by decide, _, _, fl_M_58, fun q => absurd q (by decide), fun q => absurd q (by decide), fun q => absurd q (by decide)⟩, ⟨by decide, _, _, fl_M_61, fun q => absurd q (by decide), fun q => absurd q (by decide), fun q => absurd q (by decide)⟩, ⟨by decide, _, _, fl_M_64, fun q => absurd q (by decide), fun q => absurd q (by decide), fun q => absurd q (by decide)⟩, ⟨by decide, _, _, fl_M_67, fun q => absurd q (by decide), fun q => absurd q (by decide), fun q => absurd q (by decide)⟩, ⟨by decide, _, _, fl_M_70, fun q => absurd q (by decide), fun q => absurd q (by decide), fun q => absurd q (by decide)⟩, ⟨by decide, _, _, fl_M_73, fun q => absurd q (by decide), fun q => absurd q (by decide), fun q => absurd q (by decide)⟩, ⟨by decide, _, _, fl_M_76, fun q => absurd q (by decide), fun q => absurd q (by decide), fun q => absurd q (by decide)⟩, ⟨by decide, _, _, fl_M_79, fun q => absurd q (by decide), fun q => absurd q (by decide), fun q => absurd q (by decide)⟩, ⟨by decide, _, _, fl_M_82, fun q => absurd q (by decide), fun q => absurd q (by decide), fun q => absurd q (by decide)⟩, ⟨by decide, _, _, fl_M_85, fun q => absurd q (by decide), fun q => absurd q (by decide), fun q => absurd q (by decide)⟩, ⟨by decide, _, _, fl_M_88, fun q => absurd q (by decide), fun q => absurd q (by decide), fun q => absurd q (by decide)⟩, ⟨by decide, _, _, fl_M_91, fun q => absurd q (by decide), fun q => absurd q (by decide), fun q => absurd q (by decide)⟩, ⟨by decide, _, _, fl_M_94, fun q => absurd q (by decide), fun q => absurd q (by decide), fun q => absurd q (by decide)⟩, ⟨by decide, _, _, fl_M_97, fun q => absurd q (by decide), fun q => absurd q (by decide), fun q => absurd q (by decide)⟩, ⟨by decide, _, _, fl_M_100, fun q => absurd q (by decide), fun q => absurd q (by decide), fun q => absurd q (by decide)⟩, ⟨by decide, _, _, fl_M_103, fun q => absurd q (by decide), fun q => absurd q (by decide), fun q => absurd q (by decide)⟩, ⟨by decide, _, _, fl_M_106, fun q => absurd q (by decide), fun q => absurd q (by decide), fun q => absurd q (by decide)⟩, trivial⟩, ⟨⟨by decide, _, _, fl_M_109, fun q => absurd q (by decide), fun q => absurd q (by decide), fun q => absurd q (by decide)⟩, ⟨by decide, _, _, fl_M_112, fun q => absurd q (by decide), fun q => absurd q (by decide), fun q => absurd q (by decide)⟩, ⟨by decide, _, _, fl_M_115, fun q => absurd q (by decide), fun q => absurd q (by decide), fun q => absurd q (by decide)⟩, ⟨by decide, _, _, fl_M_118, fun q => absurd q (by decide), fun q => absurd q (by decide), fun q => absurd q (by decide)⟩, ⟨by decide, _, _, fl_M_121, fun q => absurd q (by decide), fun q => absurd q (by decide), fun q => absurd q (by decide)⟩, ⟨by decide, _, _, fl_M_124, fun q => absurd q (by decide), fun q => absurd q (by decide), fun q => absurd q (by decide)⟩, ⟨by decide, _, _, fl_M_127, fun q => absurd q (by decide), fun q => absurd q (by decide), fun q => absurd q (by decide)⟩, ⟨by decide, _, _, fl_M_130, fun q => absurd q (by decide), fun q => absurd q (by decide), fun q => absurd q (by decide)⟩, ⟨by decide, _, _, fl_M_133, fun q => absurd q (by decide), fun q => absurd q (by decide), fun q => absurd q (by decide)⟩, ⟨by decide, _, _, fl_M_136, fun q => absurd q (by decide), fun q => absurd q (by decide), fun q => absurd q (by decide)⟩, ⟨by decide, _, _, fl_M_139, fun q => absurd q (by decide), fun q => absurd q (by decide), fun q => absurd q (by decide)⟩, ⟨by decide, _, _, fl_M_142, fun q => absurd q (by decide), fun q => absurd q (by decide), fun q => absurd q (by decide)⟩, ⟨by decide, _, _, fl_M_145, fun q => absurd q (by decide), fun q => absurd q (by decide), fun q => absurd q (by decide)⟩, ⟨by decide, _, _, fl_M_148, fun q => absurd q (by decide), fun q => absurd q (by decide), fun q => absurd q (by decide)⟩, ⟨by decide, _, _, fl_M_151, fun q => absurd q (by decide), fun q => absurd q (by decide), fun q => absurd q (by decide)⟩, ⟨by decide, _, _, fl_M_154, fun q => absurd q (by decide), fun q => absurd q (by decide), fun q => absurd q (by decide)⟩, ⟨by decide, _, _, fl_M_157, fun q => absurd q (by decide), fun q => absurd q (by decide), fun q => absurd q (by decide)⟩, ⟨by decide, _, _, fl_M_160, fun q => absurd q (by decide), fun q => absurd q (by decide), fun q => absurd q (by decide)⟩, trivial⟩, ⟨⟨by decide, _, _, fl_M_163, fun _ => ⟨rfl, rfl⟩, fun q => absurd q (by decide), fun q => absurd q (by decide)⟩, ⟨by decide, _, _, fl_M_166, fun q => absurd q (by decide), fun q => absurd q (by decide), fun q => absurd q (by decide)⟩, ⟨by decide, _, _, fl_M_169, fun q => absurd q (by decide), fun q => absurd q (by decide), fun q => absurd q (by decide)⟩, ⟨by decide, _, _, fl_M_172, fun q => absurd q (by decide), fun q => absurd q (by decide), fun q => absurd q (by decide)⟩, ⟨by decide, _, _, fl_M_175, fun q => absurd q (by decide), fun q => absurd q (by decide), fun q => absurd q (by decide)⟩, ⟨by decide, _, _, fl_M_178, fun q => absurd q (by decide), fun q => absurd q (by decide), fun q => absurd q (by decide)⟩, ⟨by decide, _, _, fl_M_181, fun q => absurd q (by decide), fun q => absurd q (by decide), fun q => absurd q (by decide)⟩, ⟨by decide, _, _, fl_M_184, fun q => absurd q (by decide), fun q => absurd q (by decide), fun q => absurd q (by decide)⟩, ⟨by decide, _, _, fl_M_187, fun q => absurd q (by decide), fun q => absurd q (by decide), fun q => absurd q (by decide)⟩, ⟨by decide, _, _, fl_M_190, fun q => absurd q (by decide), fun q => absurd q (by decide), fun q => absurd q (by decide)⟩, ⟨by decide, _, _, fl_M_193, fun q => absurd q (by decide), fun q => absurd q (by decide), fun q => absurd q (by decide)⟩, ⟨by decide, _, _, fl_M_196, fun q => absurd q (by decide), fun q => absurd q (by decide), fun q => absurd q (by decide)⟩, ⟨by decide, _, _, fl_M_199, fun q => absurd q (by decide), fun q => absurd q (by decide), fun q => absurd q (by decide)⟩, ⟨by decide, _, _, fl_M_202, fun q => absurd q (by decide), fun q => absurd q (by decide), fun q => absurd q (by decide)⟩, ⟨by decide, _, _, fl_M_205, fun q => absurd q (by decide), fun q => absurd q (by decide), fun q => absurd q (by decide)⟩, ⟨by decide, _, _, fl_M_208, fun q => absurd q (by decide), fun q => absurd q (by decide), fun q => absurd q (by decide)⟩, ⟨by decide, _, _, fl_M_211, fun q => absurd q (by decide), fun q => absurd q (by decide), fun q => absurd q (by decide)⟩, ⟨by decide, _, _, fl_M_214, fun q => absurd q (by decide), fun q => absurd q (by decide), fun q => absurd q (by decide)⟩, trivial⟩, ⟨⟨by decide, _, _, fl_M_217, fun q => absurd q (by decide), fun q => absurd q (by decide), fun q => absurd q (by decide)⟩, ⟨by decide, _, _, fl_M_220, fun q => absurd q (by decide), fun q => absurd q (by decide), fun q => absurd q (by decide)⟩, ⟨by decide, _, _, fl_M_223, fun q => absurd q (by decide), fun q => absurd q (by decide), fun q => absurd q (by decide)⟩, ⟨by decide, _, _, fl_M_226, fun q => absurd q (by decide), fun q => absurd q (by decide), fun q => absurd q (by decide)⟩, ⟨by decide, _, _, fl_M_229, fun q => absurd q (by decide), fun q => absurd q (by decide), fun q => absurd q (by decide)⟩, ⟨by decide, _, _, fl_M_232, fun q => absurd q (by decide), fun q => absurd q (by decide), fun q => absurd q (by decide)⟩, ⟨by decide, _, _, fl_M_235, fun q => absurd q (by decide), fun q => absurd q (by decide), fun q => absurd q (by decide)⟩, ⟨by decide, _, _, fl_M_238, fun q => absurd q (by decide), fun q => absurd q (by decide), fun q => absurd q (by decide)⟩, ⟨by decide, _, _, fl_M_241, fun q => absurd q (by decide), fun q => absurd q (by decide), fun q => absurd q (by decide)⟩, ⟨by decide, _, _, fl_M_244, fun q => absurd q (by decide), fun q => absurd q (by decide), fun q => absurd q (by decide)⟩, ⟨by decide, _, _, fl_M_247, fun q => absurd q (by decide), fun q => absurd q (by decide), fun q => absurd q (by decide)⟩, ⟨by decide, _, _, fl_M_250, fun q => absurd q (by decide), fun q => absurd q (by decide), fun q => absurd q (by decide)⟩, ⟨by decide, _, _, fl_M_253, fun q => absurd q (by decide), fun q => absurd q (by decide), fun q => absurd q (by decide)⟩, ⟨by decide, _, _, fl_M_256, fun q => absurd q (by decide), fun q => absurd q (by decide), fun q => absurd q (by decide)⟩, ⟨by decide, _, _, fl_M_259, fun q => absurd q (by decide), fun q => absurd q (by decide), fun q => absurd q (by decide)⟩, ⟨by decide, _, _, fl_M_262, fun q => absurd q (by decide), fun q => absurd q (by decide), fun q => absurd q (by decide)⟩, ⟨by decide, _, _, fl_M_265, fun q => absurd q (by decide), fun q => absurd q (by decide), fun q => absurd q (by decide)⟩, ⟨by decide, _, _, fl_M_268, fun q => absurd q (by decide), fun q => absurd q (by decide), fun q => absurd q (by decide)⟩, trivial⟩, ⟨⟨by decide, _, _, fl_M_271, fun q => absurd q (by decide), fun q => absurd q (by decide), fun q => absurd q (by decide)⟩, ⟨by decide, _, _, fl_M_274, fun q => absurd q (by decide), fun q => absurd q (by decide), fun q => absurd q (by decide)⟩, ⟨by decide, _, _, fl_M_277, fun q => absurd q (by decide), fun q => absurd q (by decide), fun q => absurd q (by decide)⟩, ⟨by decide, _, _, fl_M_280, fun q => absurd q (by decide), fun q => absurd q (by decide), fun q => absurd q (by decide)⟩, ⟨by decide, _, _, fl_M_283, fun q => absurd q (by decide), fun q => absurd q (by decide), fun q => absurd q (by decide)⟩, ⟨by decide, _, _, fl_M_286, fun q => absurd q (by decide), fun q => absurd q (by decide), fun q => absurd q (by decide)⟩, ⟨by decide, _, _, fl_M_289, fun q => absurd q (by decide), fun q => absurd q (by decide), fun q => absurd q (by decide)⟩, ⟨by decide, _, _, fl_M_292, fun q => absurd q (by decide), fun q => absurd q (by decide), fun q => absurd q (by decide)⟩, ⟨by decide, _, _, fl_M_295, fun q => absurd q (by decide), fun q => absurd q (by decide), fun q => absurd q (by decide)⟩, ⟨by decide, _, _, fl_M_298, fun q => absurd q (by decide), fun q => absurd q (by decide), fun q => absurd q (by decide)⟩, ⟨by decide, _, _, fl_M_301, fun q => absurd q (by decide), fun q => absurd q (by decide), fun q => absurd q (by decide)⟩, ⟨by decide, _, _, fl_M_304, fun q => absurd q (by decide), fun q => absurd q (by decide), fun q => absurd q (by decide)⟩, ⟨by decide, _, _, fl_M_307, fun q => absurd q (by decide), fun q => absurd q (by decide), fun q => absurd q (by decide)⟩, ⟨by decide, _, _, fl_M_310, fun q => absurd q (by decide), fun q => absurd q (by decide), fun q => absurd q (by decide)⟩, ⟨by decide, _, _, fl_M_313, fun q => absurd q (by decide), fun q => absurd q (by decide), fun q => absurd q (by decide)⟩, ⟨by decide, _, _, fl_M_316, fun q => absurd q (by decide), fun q => absurd q (by decide), fun q => absurd q (by decide)⟩, ⟨by decide, _, _, fl_M_319, fun q => absurd q (by decide), fun q => absurd q (by decide), fun q => absurd q (by decide)⟩, ⟨by decide, _, _, fl_M_322, fun q => absurd q (by decide), fun q => absurd q (by decide), fun q => absurd q (by decide)⟩, trivial⟩, ⟨⟨by decide, _, _, fl_M_325, fun q => absurd q (by decide), fun q => absurd q (by decide), fun q => absurd q (by decide)⟩, ⟨by decide, _, _, fl_M_328, fun q => absurd q (by decide), fun q => absurd q (by decide), fun q => absurd q (by decide)⟩, ⟨by decide, _, _, fl_M_396, fun _ => ⟨rfl, rfl⟩, fun q => absurd q (by decide), fun q => absurd q (by decide)⟩, ⟨by decide, _, _, fl_M_403, fun _ => ⟨rfl, rfl⟩, fun q => absurd q (by decide), fun q => absurd q (by decide)⟩, ⟨by decide, _, _, fl_M_413, fun _ => ⟨rfl, rfl⟩, fun q => absurd q (by decide), fun q => absurd q (by decide)⟩, ⟨by decide, _, _, fl_M_423, fun _ => ⟨rfl, rfl⟩, fun q => absurd q (by decide), fun q => absurd q (by decide)⟩, ⟨by decide, _, _, fl_M_426, fun _ => ⟨rfl, rfl⟩, fun q => absurd q (by decide), fun q => absurd q (by decide)⟩, ⟨by decide, _, _, fl_M_429, fun _ => ⟨rfl, rfl⟩, fun q => absurd q (by decide), fun q => absurd q (by decide)⟩, ⟨by decide, _, _, fl_M_472, fun q => absurd q (by decide), fun _ => ⟨rfl, rfl⟩, fun q => absurd q (by decide)⟩, ⟨by decide, _, _, fl_M_498, fun _ => ⟨rfl, rfl⟩, fun q => absurd q (by decide), fun q => absurd q (by decide)⟩, ⟨by decide, _, _, fl_M_504, fun _ => ⟨rfl, rfl⟩, fun q => absurd q (by decide), fun q => absurd q (by decide)⟩, ⟨by decide, _, _, fl_M_507, fun q => absurd q (by decide), fun q => absurd q (by decide), fun _ => ⟨rfl, rfl⟩⟩, ⟨by decide, _, _, fl_M_511, fun _ => ⟨rfl, rfl⟩, fun q => absurd q (by decide), fun q => absurd q (by decide)⟩, ⟨by decide, _, _, fl_M_540, fun _ => ⟨rfl, rfl⟩, fun q => absurd q (by decide), fun q => absurd q (by decide)⟩, ⟨by decide, _, _, fl_M_543, fun _ => ⟨rfl, rfl⟩, fun q => absurd q (by decide), fun q => absurd q (by decide)⟩, ⟨by decide, _, _, fl_M_546, fun _ => ⟨rfl, rfl⟩, fun q => absurd q (by decide), fun q => absurd q (by decide)⟩, ⟨by decide, _, _, fl_M_549, fun _ => ⟨rfl, rfl⟩, fun q => absurd q (by decide), fun q => absurd q (by decide)⟩, ⟨by decide, _, _, fl_M_556, fun _ => ⟨rfl, rfl⟩, fun q => absurd q (by decide), fun q => absurd q (by decide)⟩, trivial⟩, ⟨⟨by decide, _, _, fl_M_559, fun _ => ⟨rfl, rfl⟩, fun q => absurd q (by decide), fun q => absurd q (by decide)⟩, ⟨by decide, _, _, fl_M_576, fun _ => ⟨rfl, rfl⟩, fun q => absurd q (by decide), fun q => absurd q (by decide)⟩, ⟨by decide, _, _, fl_M_582, fun q => absurd q (by decide), fun _ => ⟨rfl, rfl⟩, fun q => absurd q (by decide)⟩, ⟨by decide, _, _, fl_M_585, fun q => absurd q (by decide), fun _ => ⟨rfl, rfl⟩, fun q => absurd q (by decide)⟩, ⟨by decide, _, _, fl_M_646, fun _ => ⟨rfl, rfl⟩, fun q => absurd q (by decide), fun q => absurd q (by decide)⟩, ⟨by decide, _, _, fl_M_655, fun _ => ⟨rfl, rfl⟩, fun q => absurd q (by decide), fun q => absurd q (by decide)⟩, ⟨by decide, _, _, fl_M_701, fun _ => ⟨rfl, rfl⟩, fun q => absurd q (by decide), fun q => absurd q (by decide)⟩, ⟨by decide, _, _, fl_M_704, fun _ => ⟨rfl, rfl⟩, fun q => absurd q (by decide), fun q => absurd q (by decide)⟩, ⟨by decide, _, _, fl_M_707, fun _ => ⟨rfl, rfl⟩, fun q => absurd q (by decide), fun q => absurd q (by decide)⟩, ⟨by decide, _, _, fl_M_710, fun _ => ⟨rfl, rfl⟩, fun q => absurd q (by decide), fun q => absurd q (by decide)⟩, ⟨by decide, _, _, fl_M_721, fun q => absurd q (by decide), fun _ => ⟨rfl, rfl⟩, fun q => absurd q (by decide)⟩, ⟨by decide, _, _, fl_M_724, fun _ => ⟨rfl, rfl⟩, fun q => absurd q (by decide), fun q => absurd q (by decide)⟩, ⟨by decide, _, _, fl_M_742, fun _ => ⟨rfl, rfl⟩, fun q => absurd q (by decide), fun q => absurd q (by decide)⟩, ⟨by decide, _, _, fl_M_745, fun q => absurd q (by decide), fun _ => ⟨rfl, rfl⟩, fun q => absurd q (by decide)⟩, ⟨by decide, _, _, fl_M_750, fun _ => ⟨rfl, rfl⟩, fun q => absurd q (by decide), fun q => absurd q (by decide)⟩, ⟨by decide, _, _, fl_M_753, fun _ => ⟨rfl, rfl⟩, fun q => absurd q (by decide), fun q => absurd q (by decide)⟩, ⟨by decide, _, _, fl_M_765, fun _ => ⟨rfl, rfl⟩, fun q => absurd q (by decide), fun q => absurd q (by decide)⟩, ⟨by decide, _, _, fl_M_774, fun _ => ⟨rfl, rfl⟩, fun q => absurd q (by decide), fun q => absurd q (by decide)⟩, trivial⟩, ⟨⟨by decide, _, _, fl_M_791, fun _ => ⟨rfl, rfl⟩, fun q => absurd q (by decide), fun q => absurd q (by decide)⟩, ⟨by decide, _, _, fl_M_800, fun _ => ⟨rfl, rfl⟩, fun q => absurd q (by decide), fun q => absurd q (by decide)⟩, ⟨by decide, _, _, fl_M_803, fun _ => ⟨rfl, rfl⟩, fun q => absurd q (by decide), fun q => absurd q (by decide)⟩, ⟨by decide, _, _, fl_M_814, fun _ => ⟨rfl, rfl⟩, fun q => absurd q (by decide), fun q => absurd q (by decide)⟩, ⟨by decide, _, _, fl_M_827, fun q => absurd q (by decide), fun _ => ⟨rfl, rfl⟩, fun q => absurd q (by decide)⟩, ⟨by decide, _, _, fl_M_837, fun _ => ⟨rfl, rfl⟩, fun q => absurd q (by decide), fun q => absurd q (by decide)⟩, ⟨by decide, _, _, fl_M_851, fun _ => ⟨rfl, rfl⟩, fun q => absurd q (by decide), fun q => absurd q (by decide)⟩, ⟨by decide, _, _, fl_M_886, fun _ => ⟨rfl, rfl⟩, fun q => absurd q (by decide), fun q => absurd q (by decide)⟩, ⟨by decide, _, _, fl_M_889, fun _ => ⟨rfl, rfl⟩, fun q => absurd q (by decide), fun q => absurd q (by decide)⟩, ⟨by decide, _, _, fl_M_892, fun _ => ⟨rfl, rfl⟩, fun q => absurd q (by decide), fun q => absurd q (by decide)⟩, ⟨by decide, _, _, fl_M_897, fun q => absurd q (by decide), fun _ => ⟨rfl, rfl⟩, fun q => absurd q (by decide)⟩, trivial⟩, trivial⟩
theorem kf_chk : t_kf.all (fun x e => (Nat.blt (x / 1024) 215 && Nat.blt e.1 100) && (Nat.beq (KD (x / 1024)).1 e.1 && ((match (KD (x / 1024)).2[x % 1024]? with
  | some q => Nat.beq q e.2.1
  | none => false) && ((!(Nat.beq e.2.1 2) || Nat.beq (RF (x / 1024) (x % 1024)) (e.2.2 + 1)) && (match t_ka.get (x / 1024) with
  | some _ => false
  | none => true))))) = true := by decide +kernel
theorem ka_chk : t_ka.all (fun k e => (Nat.blt k 215 && Nat.ble e.2 100000) && (Nat.beq (KD k).1 e.1 && (match (KD k).2 with
  | [z] => Nat.beq z e.2
  | _ => false))) = true := by decide +kernel
def rfIn (k b n : Nat) : Nat → Bool
  | 0 => true
  | i + 1 => (Nat.ble (b + 1) (RF k i) && Nat.ble (RF k i) (b + n)) && rfIn k b n i
theorem kr_chk : t_kr.all (fun k e => match t_ka.get k with
  | some (kd, z) => Nat.beq kd 103 && rfIn k e.1 e.2 z
  | none => false) = true := by decide +kernel
theorem room_big : t_room.all (fun _ e => Nat.ble 1 e.1 && Nat.ble 40 e.2.1) = true := by decide +kernel
theorem room_in : t_room.all (fun m _ => match MT.get m with
  | some _ => true
  | none => false) = true := by decide +kernel
theorem low_none {α : Type} {t : BT α} (h : t.all (fun k _ => Nat.ble 4096 k) = true) {x : Nat} (hx : x < 4096) : t.get x = none := by
  cases hg : t.get x with
  | none => rfl
  | some v =>
    have := (BT.all_P h).at hg
    have := Nat.le_of_ble_eq_true this
    omega
theorem low_cst : t_cst.all (fun k _ => Nat.ble 4096 k) = true := by decide +kernel
theorem low_cstl : t_cstl.all (fun k _ => Nat.ble 4096 k) = true := by decide +kernel
theorem low_fld : t_fld.all (fun k _ => Nat.ble 4096 k) = true := by decide +kernel
theorem low_call : t_call.all (fun k _ => Nat.ble 4096 k) = true := by decide +kernel
theorem low_lib : t_lib.all (fun k _ => Nat.ble 4096 k) = true := by decide +kernel
def CallOk (x : Nat) (e : Nat × (Nat × Bool)) : Prop := xM (cname (x / 4096)) (x % 4096) (Yf e.1) e.2.1 ∧ (e.2.2 = true → Cond.static (Yf e.1).1 ∈ TBg) ∧ (e.2.2 = false → (Cond.instanceMethod (Yf e.1).1 ∈ TBg ∧ Cond.selects (Yf e.1).1.cls (Yf e.1).1 (Yf e.1).1 ∈ TBg) ∧ ∀ fr lo nl t q, t_room.get e.1 = some (fr, (lo, (nl, (t, q)))) → (q < 215 ∧ ∃ ci l, KD q = (ci, l) ∧ ci < 100 ∧ (cls[ci]?.map fun q => q.1) = some (Yf e.1).1.cls) ∨ (q = 1000 ∧ (Yf e.1).1.cls = "java/lang/String"))
theorem cl_1_115 : CallOk 4211 (11, (1, false)) := ⟨(show xM "RightsHouse" 115 Y_Wh_isMember 1 from ⟨k_3_138, k_1_2, k_3_141, by decide, by decide, by decide +kernel⟩), ⟨fun q => absurd q (by decide), fun _ => ⟨⟨k_3_139, k_3_140⟩, fun fr lo nl t q h => by
  have e : t_room.get 11 = some (2, (61, (2, (2, 5)))) := by decide +kernel
  rw [e] at h
  cases h
  exact Or.inl ⟨by decide, 8, _, rfl, by decide, rfl⟩⟩⟩⟩
theorem cl_1_119 : CallOk 4215 (10, (1, false)) := ⟨(show xM "RightsHouse" 119 Y_Wh_isGroup 1 from ⟨k_3_150, k_1_2, k_3_149, by decide, by decide, by decide +kernel⟩), ⟨fun q => absurd q (by decide), fun _ => ⟨⟨k_3_147, k_3_148⟩, fun fr lo nl t q h => by
  have e : t_room.get 10 = some (1, (40, (2, (2, 5)))) := by decide +kernel
  rw [e] at h
  cases h
  exact Or.inl ⟨by decide, 8, _, rfl, by decide, rfl⟩⟩⟩⟩
theorem cl_1_122 : CallOk 4218 (4, (1, true)) := ⟨(show xM "RightsHouse" 122 Y_H_isMoment 1 from ⟨k_3_151, k_1_1, k_3_153, by decide, by decide, by decide +kernel⟩), ⟨fun _ => k_3_152, fun q => absurd q (by decide)⟩⟩
theorem cl_1_125 : CallOk 4221 (16, (2, false)) := ⟨(show xM "RightsHouse" 125 Y_Wh_wouldRing 2 from ⟨k_3_154, k_1_2, k_3_157, by decide, by decide, by decide +kernel⟩), ⟨fun q => absurd q (by decide), fun _ => ⟨⟨k_3_155, k_3_156⟩, fun fr lo nl t q h => by
  have e : t_room.get 16 = some (4, (113, (3, (2, 5)))) := by decide +kernel
  rw [e] at h
  cases h
  exact Or.inl ⟨by decide, 8, _, rfl, by decide, rfl⟩⟩⟩⟩
theorem cl_1_132 : CallOk 4228 (17, (5, false)) := ⟨(show xM "RightsHouse" 132 Y_Wh_addRow 5 from ⟨k_3_174, k_1_2, k_3_177, by decide, by decide, by decide +kernel⟩), ⟨fun q => absurd q (by decide), fun _ => ⟨⟨k_3_175, k_3_176⟩, fun fr lo nl t q h => by
  have e : t_room.get 17 = some (1, (40, (7, (1, 5)))) := by decide +kernel
  rw [e] at h
  cases h
  exact Or.inl ⟨by decide, 8, _, rfl, by decide, rfl⟩⟩⟩⟩
theorem cl_1_136 : CallOk 4232 (6, (2, true)) := ⟨(show xM "RightsHouse" 136 Y_H_isAmong 2 from ⟨k_3_182, k_1_1, k_3_184, by decide, by decide, by decide +kernel⟩), ⟨fun _ => k_3_183, fun q => absurd q (by decide)⟩⟩
theorem cl_1_139 : CallOk 4235 (13, (1, false)) := ⟨(show xM "RightsHouse" 139 Y_Wh_isLasting 1 from ⟨k_3_185, k_1_2, k_3_173, by decide, by decide, by decide +kernel⟩), ⟨fun q => absurd q (by decide), fun _ => ⟨⟨k_3_171, k_3_172⟩, fun fr lo nl t q h => by
  have e : t_room.get 13 = some (1, (40, (2, (2, 5)))) := by decide +kernel
  rw [e] at h
  cases h
  exact Or.inl ⟨by decide, 8, _, rfl, by decide, rfl⟩⟩⟩⟩
theorem cl_1_142 : CallOk 4238 (19, (2, false)) := ⟨(show xM "RightsHouse" 142 Y_Wh_endRow 2 from ⟨k_3_186, k_1_2, k_3_189, by decide, by decide, by decide +kernel⟩), ⟨fun q => absurd q (by decide), fun _ => ⟨⟨k_3_187, k_3_188⟩, fun fr lo nl t q h => by
  have e : t_room.get 19 = some (1, (40, (3, (0, 5)))) := by decide +kernel
  rw [e] at h
  cases h
  exact Or.inl ⟨by decide, 8, _, rfl, by decide, rfl⟩⟩⟩⟩
theorem cl_1_146 : CallOk 4242 (9, (1, false)) := ⟨(show xM "RightsHouse" 146 Y_Wh_isPerson 1 from ⟨k_3_194, k_1_2, k_3_145, by decide, by decide, by decide +kernel⟩), ⟨fun q => absurd q (by decide), fun _ => ⟨⟨k_3_143, k_3_144⟩, fun fr lo nl t q h => by
  have e : t_room.get 9 = some (1, (40, (2, (2, 5)))) := by decide +kernel
  rw [e] at h
  cases h
  exact Or.inl ⟨by decide, 8, _, rfl, by decide, rfl⟩⟩⟩⟩
theorem cl_1_149 : CallOk 4245 (21, (3, false)) := ⟨(show xM "RightsHouse" 149 Y_Wh_groupsOf 3 from ⟨k_3_195, k_1_2, k_3_198, by decide, by decide, by decide +kernel⟩), ⟨fun q => absurd q (by decide), fun _ => ⟨⟨k_3_196, k_3_197⟩, fun fr lo nl t q h => by
  have e : t_room.get 21 = some (4, (113, (6, (1, 5)))) := by decide +kernel
  rw [e] at h
  cases h
  exact Or.inl ⟨by decide, 8, _, rfl, by decide, rfl⟩⟩⟩⟩
theorem cl_1_156 : CallOk 4252 (24, (2, true)) := ⟨(show xM "RightsHouse" 156 Y_Wh_slotOfPerson 2 from ⟨k_3_211, k_1_2, k_3_213, by decide, by decide, by decide +kernel⟩), ⟨fun _ => k_3_212, fun q => absurd q (by decide)⟩⟩
theorem cl_1_160 : CallOk 4256 (25, (1, false)) := ⟨(show xM "RightsHouse" 160 Y_Th_isThere 1 from ⟨k_3_214, k_1_3, k_3_217, by decide, by decide, by decide +kernel⟩), ⟨fun q => absurd q (by decide), fun _ => ⟨⟨k_3_215, k_3_216⟩, fun fr lo nl t q h => by
  have e : t_room.get 25 = some (1, (40, (2, (2, 10)))) := by decide +kernel
  rw [e] at h
  cases h
  exact Or.inl ⟨by decide, 7, _, rfl, by decide, rfl⟩⟩⟩⟩
theorem cl_1_163 : CallOk 4259 (26, (2, true)) := ⟨(show xM "RightsHouse" 163 Y_Wh_slotOfThing 2 from ⟨k_3_218, k_1_2, k_3_220, by decide, by decide, by decide +kernel⟩), ⟨fun _ => k_3_219, fun q => absurd q (by decide)⟩⟩
theorem cl_1_166 : CallOk 4262 (27, (2, false)) := ⟨(show xM "RightsHouse" 166 Y_H_slotOf 2 from ⟨k_3_207, k_1_1, k_3_210, by decide, by decide, by decide +kernel⟩), ⟨fun q => absurd q (by decide), fun _ => ⟨⟨k_3_209, (tb_s (q := (⟨"RightsHouse", "slotOf", "(II)I"⟩, 18)) (by decide +kernel))⟩, fun fr lo nl t q h => by
  have e : t_room.get 27 = some (2, (61, (3, (1, 0)))) := by decide +kernel
  rw [e] at h
  cases h
  exact Or.inl ⟨by decide, 10, _, rfl, by decide, rfl⟩⟩⟩⟩
theorem cl_1_169 : CallOk 4265 (28, (3, false)) := ⟨(show xM "RightsHouse" 169 Y_Wh_setFeature 3 from ⟨k_3_221, k_1_2, k_3_224, by decide, by decide, by decide +kernel⟩), ⟨fun q => absurd q (by decide), fun _ => ⟨⟨k_3_222, k_3_223⟩, fun fr lo nl t q h => by
  have e : t_room.get 28 = some (1, (40, (5, (0, 5)))) := by decide +kernel
  rw [e] at h
  cases h
  exact Or.inl ⟨by decide, 8, _, rfl, by decide, rfl⟩⟩⟩⟩
theorem cl_1_179 : CallOk 4275 (31, (3, false)) := ⟨(show xM "RightsHouse" 179 Y_Wh_setItem 3 from ⟨k_3_229, k_1_2, k_3_232, by decide, by decide, by decide +kernel⟩), ⟨fun q => absurd q (by decide), fun _ => ⟨⟨k_3_230, k_3_231⟩, fun fr lo nl t q h => by
  have e : t_room.get 31 = some (2, (61, (7, (0, 5)))) := by decide +kernel
  rw [e] at h
  cases h
  exact Or.inl ⟨by decide, 8, _, rfl, by decide, rfl⟩⟩⟩⟩
theorem cl_1_195 : CallOk 4291 (34, (3, false)) := ⟨(show xM "RightsHouse" 195 Y_Wh_hasItems 3 from ⟨k_4_11, k_1_2, k_4_14, by decide, by decide, by decide +kernel⟩), ⟨fun q => absurd q (by decide), fun _ => ⟨⟨k_4_12, k_4_13⟩, fun fr lo nl t q h => by
  have e : t_room.get 34 = some (1, (40, (4, (2, 5)))) := by decide +kernel
  rw [e] at h
  cases h
  exact Or.inl ⟨by decide, 8, _, rfl, by decide, rfl⟩⟩⟩⟩
theorem cl_1_207 : CallOk 4303 (36, (2, false)) := ⟨(show xM "RightsHouse" 207 Y_Th_add 2 from ⟨k_4_22, k_1_3, k_4_25, by decide, by decide, by decide +kernel⟩), ⟨fun q => absurd q (by decide), fun _ => ⟨⟨k_4_23, k_4_24⟩, fun fr lo nl t q h => by
  have e : t_room.get 36 = some (1, (40, (3, (1, 10)))) := by decide +kernel
  rw [e] at h
  cases h
  exact Or.inl ⟨by decide, 7, _, rfl, by decide, rfl⟩⟩⟩⟩
theorem cl_1_210 : CallOk 4306 (38, (2, false)) := ⟨(show xM "RightsHouse" 210 Y_Th_isInside 2 from ⟨k_4_30, k_1_3, k_4_33, by decide, by decide, by decide +kernel⟩), ⟨fun q => absurd q (by decide), fun _ => ⟨⟨k_4_31, k_4_32⟩, fun fr lo nl t q h => by
  have e : t_room.get 38 = some (1, (40, (5, (2, 10)))) := by decide +kernel
  rw [e] at h
  cases h
  exact Or.inl ⟨by decide, 7, _, rfl, by decide, rfl⟩⟩⟩⟩
theorem cl_1_220 : CallOk 4316 (41, (1, false)) := ⟨(show xM "RightsHouse" 220 Y_Th_bearsAny 1 from ⟨k_4_42, k_1_3, k_4_45, by decide, by decide, by decide +kernel⟩), ⟨fun q => absurd q (by decide), fun _ => ⟨⟨k_4_43, k_4_44⟩, fun fr lo nl t q h => by
  have e : t_room.get 41 = some (1, (40, (3, (2, 10)))) := by decide +kernel
  rw [e] at h
  cases h
  exact Or.inl ⟨by decide, 7, _, rfl, by decide, rfl⟩⟩⟩⟩
theorem cl_1_229 : CallOk 4325 (43, (1, false)) := ⟨(show xM "RightsHouse" 229 Y_Th_depthOf 1 from ⟨k_4_50, k_1_3, k_4_53, by decide, by decide, by decide +kernel⟩), ⟨fun q => absurd q (by decide), fun _ => ⟨⟨k_4_51, k_4_52⟩, fun fr lo nl t q h => by
  have e : t_room.get 43 = some (1, (40, (5, (1, 10)))) := by decide +kernel
  rw [e] at h
  cases h
  exact Or.inl ⟨by decide, 7, _, rfl, by decide, rfl⟩⟩⟩⟩
theorem cl_1_233 : CallOk 4329 (45, (2, false)) := ⟨(show xM "RightsHouse" 233 Y_Th_isUnder 2 from ⟨k_4_58, k_1_3, k_4_61, by decide, by decide, by decide +kernel⟩), ⟨fun q => absurd q (by decide), fun _ => ⟨⟨k_4_59, k_4_60⟩, fun fr lo nl t q h => by
  have e : t_room.get 45 = some (1, (40, (5, (2, 10)))) := by decide +kernel
  rw [e] at h
  cases h
  exact Or.inl ⟨by decide, 7, _, rfl, by decide, rfl⟩⟩⟩⟩
theorem cl_1_236 : CallOk 4332 (5, (1, true)) := ⟨(show xM "RightsHouse" 236 Y_H_isAct 1 from ⟨k_4_66, k_1_1, k_4_68, by decide, by decide, by decide +kernel⟩), ⟨fun _ => k_4_67, fun q => absurd q (by decide)⟩⟩
theorem cl_1_239 : CallOk 4335 (48, (3, false)) := ⟨(show xM "RightsHouse" 239 Y_Th_tellHolds 3 from ⟨k_4_69, k_1_3, k_4_72, by decide, by decide, by decide +kernel⟩), ⟨fun q => absurd q (by decide), fun _ => ⟨⟨k_4_70, k_4_71⟩, fun fr lo nl t q h => by
  have e : t_room.get 48 = some (2, (62, (5, (2, 10)))) := by decide +kernel
  rw [e] at h
  cases h
  exact Or.inl ⟨by decide, 7, _, rfl, by decide, rfl⟩⟩⟩⟩
theorem cl_1_243 : CallOk 4339 (50, (2, false)) := ⟨(show xM "RightsHouse" 243 Y_Th_actHolds 2 from ⟨k_4_77, k_1_3, k_4_80, by decide, by decide, by decide +kernel⟩), ⟨fun q => absurd q (by decide), fun _ => ⟨⟨k_4_78, k_4_79⟩, fun fr lo nl t q h => by
  have e : t_room.get 50 = some (1, (40, (3, (2, 10)))) := by decide +kernel
  rw [e] at h
  cases h
  exact Or.inl ⟨by decide, 7, _, rfl, by decide, rfl⟩⟩⟩⟩
theorem cl_1_248 : CallOk 4344 (104, (3, false)) := ⟨(show xM "RightsHouse" 248 Y_Po_read 3 from ⟨k_4_85, k_1_4, k_4_88, by decide, by decide, by decide +kernel⟩), ⟨fun q => absurd q (by decide), fun _ => ⟨⟨k_4_86, k_4_87⟩, fun fr lo nl t q h => by
  have e : t_room.get 104 = some (602, (20044, (5, (1, 17)))) := by decide +kernel
  rw [e] at h
  cases h
  exact Or.inl ⟨by decide, 5, _, rfl, by decide, rfl⟩⟩⟩⟩
theorem cl_1_258 : CallOk 4354 (109, (5, false)) := ⟨(show xM "RightsHouse" 258 Y_H_writeLog 5 from ⟨k_5_155, k_1_1, k_5_158, by decide, by decide, by decide +kernel⟩), ⟨fun q => absurd q (by decide), fun _ => ⟨⟨k_5_157, (tb_s (q := (⟨"RightsHouse", "writeLog", "(IIIII)V"⟩, 18)) (by decide +kernel))⟩, fun fr lo nl t q h => by
  have e : t_room.get 109 = some (2, (64, (7, (0, 0)))) := by decide +kernel
  rw [e] at h
  cases h
  exact Or.inl ⟨by decide, 10, _, rfl, by decide, rfl⟩⟩⟩⟩
theorem cl_1_262 : CallOk 4358 (112, (3, false)) := ⟨(show xM "RightsHouse" 262 Y_H_isRequest 3 from ⟨k_5_173, k_1_1, k_5_176, by decide, by decide, by decide +kernel⟩), ⟨fun q => absurd q (by decide), fun _ => ⟨⟨k_5_175, (tb_s (q := (⟨"RightsHouse", "isRequest", "(III)Z"⟩, 18)) (by decide +kernel))⟩, fun fr lo nl t q h => by
  have e : t_room.get 112 = some (2, (61, (4, (2, 0)))) := by decide +kernel
  rw [e] at h
  cases h
  exact Or.inl ⟨by decide, 10, _, rfl, by decide, rfl⟩⟩⟩⟩
theorem cl_1_265 : CallOk 4361 (113, (2, false)) := ⟨(show xM "RightsHouse" 265 Y_Ju_setMoment 2 from ⟨k_5_177, k_1_5, k_5_180, by decide, by decide, by decide +kernel⟩), ⟨fun q => absurd q (by decide), fun _ => ⟨⟨k_5_178, k_5_179⟩, fun fr lo nl t q h => by
  have e : t_room.get 113 = some (1, (40, (3, (0, 27)))) := by decide +kernel
  rw [e] at h
  cases h
  exact Or.inl ⟨by decide, 3, _, rfl, by decide, rfl⟩⟩⟩⟩
theorem cl_1_268 : CallOk 4364 (114, (2, false)) := ⟨(show xM "RightsHouse" 268 Y_Ju_setPerson 2 from ⟨k_5_181, k_1_5, k_5_184, by decide, by decide, by decide +kernel⟩), ⟨fun q => absurd q (by decide), fun _ => ⟨⟨k_5_182, k_5_183⟩, fun fr lo nl t q h => by
  have e : t_room.get 114 = some (1, (40, (3, (0, 27)))) := by decide +kernel
  rw [e] at h
  cases h
  exact Or.inl ⟨by decide, 3, _, rfl, by decide, rfl⟩⟩⟩⟩
theorem cl_1_271 : CallOk 4367 (111, (1, false)) := ⟨(show xM "RightsHouse" 271 Y_H_policyInForce 1 from ⟨k_5_185, k_1_1, k_5_188, by decide, by decide, by decide +kernel⟩), ⟨fun q => absurd q (by decide), fun _ => ⟨⟨k_5_187, (tb_s (q := (⟨"RightsHouse", "policyInForce", "(I)I"⟩, 18)) (by decide +kernel))⟩, fun fr lo nl t q h => by
  have e : t_room.get 111 = some (1, (40, (3, (1, 0)))) := by decide +kernel
  rw [e] at h
  cases h
  exact Or.inl ⟨by decide, 10, _, rfl, by decide, rfl⟩⟩⟩⟩
theorem cl_1_274 : CallOk 4370 (143, (3, false)) := ⟨(show xM "RightsHouse" 274 Y_Ju_answerKept 3 from ⟨k_5_189, k_1_5, k_5_192, by decide, by decide, by decide +kernel⟩), ⟨fun q => absurd q (by decide), fun _ => ⟨⟨k_5_190, k_5_191⟩, fun fr lo nl t q h => by
  have e : t_room.get 143 = some (25, (734, (5, (1, 27)))) := by decide +kernel
  rw [e] at h
  cases h
  exact Or.inl ⟨by decide, 3, _, rfl, by decide, rfl⟩⟩⟩⟩
theorem cl_1_284 : CallOk 4380 (147, (3, false)) := ⟨(show xM "RightsHouse" 284 Y_Ju_thingAllowed 3 from ⟨k_6_85, k_1_5, k_6_88, by decide, by decide, by decide +kernel⟩), ⟨fun q => absurd q (by decide), fun _ => ⟨⟨k_6_86, k_6_87⟩, fun fr lo nl t q h => by
  have e : t_room.get 147 = some (25, (734, (6, (1, 27)))) := by decide +kernel
  rw [e] at h
  cases h
  exact Or.inl ⟨by decide, 3, _, rfl, by decide, rfl⟩⟩⟩⟩
theorem cl_1_287 : CallOk 4383 (149, (4, false)) := ⟨(show xM "RightsHouse" 287 Y_Ju_personAllowed 4 from ⟨k_6_94, k_1_5, k_6_97, by decide, by decide, by decide +kernel⟩), ⟨fun q => absurd q (by decide), fun _ => ⟨⟨k_6_95, k_6_96⟩, fun fr lo nl t q h => by
  have e : t_room.get 149 = some (25, (734, (7, (1, 27)))) := by decide +kernel
  rw [e] at h
  cases h
  exact Or.inl ⟨by decide, 3, _, rfl, by decide, rfl⟩⟩⟩⟩
theorem cl_1_294 : CallOk 4390 (152, (2, false)) := ⟨(show xM "RightsHouse" 294 Y_Ju_differences 2 from ⟨k_6_104, k_1_5, k_6_107, by decide, by decide, by decide +kernel⟩), ⟨fun q => absurd q (by decide), fun _ => ⟨⟨k_6_105, k_6_106⟩, fun fr lo nl t q h => by
  have e : t_room.get 152 = some (25, (734, (9, (1, 27)))) := by decide +kernel
  rw [e] at h
  cases h
  exact Or.inl ⟨by decide, 3, _, rfl, by decide, rfl⟩⟩⟩⟩
theorem cl_1_303 : CallOk 4399 (155, (2, false)) := ⟨(show xM "RightsHouse" 303 Y_Ju_decidedBy 2 from ⟨k_6_120, k_1_5, k_6_123, by decide, by decide, by decide +kernel⟩), ⟨fun q => absurd q (by decide), fun _ => ⟨⟨k_6_121, k_6_122⟩, fun fr lo nl t q h => by
  have e : t_room.get 155 = some (25, (734, (7, (1, 27)))) := by decide +kernel
  rw [e] at h
  cases h
  exact Or.inl ⟨by decide, 3, _, rfl, by decide, rfl⟩⟩⟩⟩
theorem cl_1_309 : CallOk 4405 (157, (3, false)) := ⟨(show xM "RightsHouse" 309 Y_Ro_addLaw 3 from ⟨k_6_128, k_1_6, k_6_131, by decide, by decide, by decide +kernel⟩), ⟨fun q => absurd q (by decide), fun _ => ⟨⟨k_6_129, k_6_130⟩, fun fr lo nl t q h => by
  have e : t_room.get 157 = some (1, (40, (4, (1, 34)))) := by decide +kernel
  rw [e] at h
  cases h
  exact Or.inl ⟨by decide, 6, _, rfl, by decide, rfl⟩⟩⟩⟩
theorem cl_1_312 : CallOk 4408 (163, (5, false)) := ⟨(show xM "RightsHouse" 312 Y_Ro_giveRow 5 from ⟨k_6_136, k_1_6, k_6_139, by decide, by decide, by decide +kernel⟩), ⟨fun q => absurd q (by decide), fun _ => ⟨⟨k_6_137, k_6_138⟩, fun fr lo nl t q h => by
  have e : t_room.get 163 = some (6, (164, (7, (1, 34)))) := by decide +kernel
  rw [e] at h
  cases h
  exact Or.inl ⟨by decide, 6, _, rfl, by decide, rfl⟩⟩⟩⟩
theorem cl_1_315 : CallOk 4411 (159, (3, false)) := ⟨(show xM "RightsHouse" 315 Y_Ro_refusingGiver 3 from ⟨k_6_162, k_1_6, k_6_143, by decide, by decide, by decide +kernel⟩), ⟨fun q => absurd q (by decide), fun _ => ⟨⟨k_6_141, k_6_142⟩, fun fr lo nl t q h => by
  have e : t_room.get 159 = some (5, (138, (7, (1, 34)))) := by decide +kernel
  rw [e] at h
  cases h
  exact Or.inl ⟨by decide, 6, _, rfl, by decide, rfl⟩⟩⟩⟩
theorem cl_1_318 : CallOk 4414 (165, (3, false)) := ⟨(show xM "RightsHouse" 318 Y_Wh_endRows 3 from ⟨k_6_163, k_1_2, k_6_166, by decide, by decide, by decide +kernel⟩), ⟨fun q => absurd q (by decide), fun _ => ⟨⟨k_6_164, k_6_165⟩, fun fr lo nl t q h => by
  have e : t_room.get 165 = some (2, (62, (7, (1, 5)))) := by decide +kernel
  rw [e] at h
  cases h
  exact Or.inl ⟨by decide, 8, _, rfl, by decide, rfl⟩⟩⟩⟩
theorem cl_1_324 : CallOk 4420 (162, (3, false)) := ⟨(show xM "RightsHouse" 324 Y_Ro_firstNotHolding 3 from ⟨k_6_176, k_1_6, k_6_149, by decide, by decide, by decide +kernel⟩), ⟨fun q => absurd q (by decide), fun _ => ⟨⟨k_6_147, k_6_148⟩, fun fr lo nl t q h => by
  have e : t_room.get 162 = some (5, (138, (5, (1, 34)))) := by decide +kernel
  rw [e] at h
  cases h
  exact Or.inl ⟨by decide, 6, _, rfl, by decide, rfl⟩⟩⟩⟩
theorem cl_1_330 : CallOk 4426 (169, (1, false)) := ⟨(show xM "RightsHouse" 330 Y_Ro_addSession 1 from ⟨k_6_181, k_1_6, k_6_184, by decide, by decide, by decide +kernel⟩), ⟨fun q => absurd q (by decide), fun _ => ⟨⟨k_6_182, k_6_183⟩, fun fr lo nl t q h => by
  have e : t_room.get 169 = some (1, (40, (2, (1, 34)))) := by decide +kernel
  rw [e] at h
  cases h
  exact Or.inl ⟨by decide, 6, _, rfl, by decide, rfl⟩⟩⟩⟩
theorem cl_1_333 : CallOk 4429 (171, (3, false)) := ⟨(show xM "RightsHouse" 333 Y_Ro_turnOn 3 from ⟨k_6_189, k_1_6, k_6_192, by decide, by decide, by decide +kernel⟩), ⟨fun q => absurd q (by decide), fun _ => ⟨⟨k_6_190, k_6_191⟩, fun fr lo nl t q h => by
  have e : t_room.get 171 = some (6, (162, (4, (1, 34)))) := by decide +kernel
  rw [e] at h
  cases h
  exact Or.inl ⟨by decide, 6, _, rfl, by decide, rfl⟩⟩⟩⟩
theorem cl_1_342 : CallOk 4438 (174, (2, false)) := ⟨(show xM "RightsHouse" 342 Y_Ro_groupsIn 2 from ⟨k_6_201, k_1_6, k_6_204, by decide, by decide, by decide +kernel⟩), ⟨fun q => absurd q (by decide), fun _ => ⟨⟨k_6_202, k_6_203⟩, fun fr lo nl t q h => by
  have e : t_room.get 174 = some (5, (138, (4, (1, 34)))) := by decide +kernel
  rw [e] at h
  cases h
  exact Or.inl ⟨by decide, 6, _, rfl, by decide, rfl⟩⟩⟩⟩
theorem cl_1_350 : CallOk 4446 (177, (2, false)) := ⟨(show xM "RightsHouse" 350 Y_Wo_addStep 2 from ⟨k_6_214, k_1_7, k_6_217, by decide, by decide, by decide +kernel⟩), ⟨fun q => absurd q (by decide), fun _ => ⟨⟨k_6_215, k_6_216⟩, fun fr lo nl t q h => by
  have e : t_room.get 177 = some (1, (40, (3, (1, 41)))) := by decide +kernel
  rw [e] at h
  cases h
  exact Or.inl ⟨by decide, 9, _, rfl, by decide, rfl⟩⟩⟩⟩
theorem cl_1_356 : CallOk 4452 (179, (4, false)) := ⟨(show xM "RightsHouse" 356 Y_Wo_addTie 4 from ⟨k_6_222, k_1_7, k_6_225, by decide, by decide, by decide +kernel⟩), ⟨fun q => absurd q (by decide), fun _ => ⟨⟨k_6_223, k_6_224⟩, fun fr lo nl t q h => by
  have e : t_room.get 179 = some (1, (40, (6, (1, 41)))) := by decide +kernel
  rw [e] at h
  cases h
  exact Or.inl ⟨by decide, 9, _, rfl, by decide, rfl⟩⟩⟩⟩
theorem cl_1_359 : CallOk 4455 (181, (2, false)) := ⟨(show xM "RightsHouse" 359 Y_H_isSearch 2 from ⟨k_6_230, k_1_1, k_6_233, by decide, by decide, by decide +kernel⟩), ⟨fun q => absurd q (by decide), fun _ => ⟨⟨k_6_232, (tb_s (q := (⟨"RightsHouse", "isSearch", "(II)Z"⟩, 18)) (by decide +kernel))⟩, fun fr lo nl t q h => by
  have e : t_room.get 181 = some (2, (61, (3, (2, 0)))) := by decide +kernel
  rw [e] at h
  cases h
  exact Or.inl ⟨by decide, 10, _, rfl, by decide, rfl⟩⟩⟩⟩
theorem cl_1_362 : CallOk 4458 (182, (3, false)) := ⟨(show xM "RightsHouse" 362 Y_Wo_prepare 3 from ⟨k_6_234, k_1_7, k_6_237, by decide, by decide, by decide +kernel⟩), ⟨fun q => absurd q (by decide), fun _ => ⟨⟨k_6_235, k_6_236⟩, fun fr lo nl t q h => by
  have e : t_room.get 182 = some (5, (138, (7, (0, 41)))) := by decide +kernel
  rw [e] at h
  cases h
  exact Or.inl ⟨by decide, 9, _, rfl, by decide, rfl⟩⟩⟩⟩
theorem cl_1_365 : CallOk 4461 (186, (1, false)) := ⟨(show xM "RightsHouse" 365 Y_Wo_search 1 from ⟨k_6_239, k_1_7, k_7_2, by decide, by decide, by decide +kernel⟩), ⟨fun q => absurd q (by decide), fun _ => ⟨⟨k_7_0, k_7_1⟩, fun fr lo nl t q h => by
  have e : t_room.get 186 = some (601, (20023, (2, (1, 41)))) := by decide +kernel
  rw [e] at h
  cases h
  exact Or.inl ⟨by decide, 9, _, rfl, by decide, rfl⟩⟩⟩⟩
theorem cl_1_368 : CallOk 4464 (187, (0, false)) := ⟨(show xM "RightsHouse" 368 Y_Wo_keep 0 from ⟨k_7_16, k_1_7, k_7_19, by decide, by decide, by decide +kernel⟩), ⟨fun q => absurd q (by decide), fun _ => ⟨⟨k_7_17, k_7_18⟩, fun fr lo nl t q h => by
  have e : t_room.get 187 = some (1, (40, (2, (0, 41)))) := by decide +kernel
  rw [e] at h
  cases h
  exact Or.inl ⟨by decide, 9, _, rfl, by decide, rfl⟩⟩⟩⟩
theorem cl_1_377 : CallOk 4473 (190, (3, false)) := ⟨(show xM "RightsHouse" 377 Y_Wo_searchWith 3 from ⟨k_7_28, k_1_7, k_7_31, by decide, by decide, by decide +kernel⟩), ⟨fun q => absurd q (by decide), fun _ => ⟨⟨k_7_29, k_7_30⟩, fun fr lo nl t q h => by
  have e : t_room.get 190 = some (602, (20044, (4, (1, 41)))) := by decide +kernel
  rw [e] at h
  cases h
  exact Or.inl ⟨by decide, 9, _, rfl, by decide, rfl⟩⟩⟩⟩
theorem cl_1_380 : CallOk 4476 (191, (4, false)) := ⟨(show xM "RightsHouse" 380 Y_H_next 4 from ⟨k_7_37, k_1_1, k_7_27, by decide, by decide, by decide +kernel⟩), ⟨fun q => absurd q (by decide), fun _ => ⟨⟨k_7_25, k_7_26⟩, fun fr lo nl t q h => by
  have e : t_room.get 191 = some (603, (20067, (5, (1, 0)))) := by decide +kernel
  rw [e] at h
  cases h
  exact Or.inl ⟨by decide, 10, _, rfl, by decide, rfl⟩⟩⟩⟩
theorem cl_1_383 : CallOk 4479 (193, (2, false)) := ⟨(show xM "RightsHouse" 383 Y_Wo_hasDone 2 from ⟨k_7_42, k_1_7, k_7_45, by decide, by decide, by decide +kernel⟩), ⟨fun q => absurd q (by decide), fun _ => ⟨⟨k_7_43, k_7_44⟩, fun fr lo nl t q h => by
  have e : t_room.get 193 = some (1, (40, (4, (2, 41)))) := by decide +kernel
  rw [e] at h
  cases h
  exact Or.inl ⟨by decide, 9, _, rfl, by decide, rfl⟩⟩⟩⟩
theorem cl_1_389 : CallOk 4485 (198, (1, false)) := ⟨(show xM "RightsHouse" 389 Y_Le_weighAll 1 from ⟨k_7_54, k_1_8, k_7_57, by decide, by decide, by decide +kernel⟩), ⟨fun q => absurd q (by decide), fun _ => ⟨⟨k_7_55, k_7_56⟩, fun fr lo nl t q h => by
  have e : t_room.get 198 = some (4, (114, (6, (0, 52)))) := by decide +kernel
  rw [e] at h
  cases h
  exact Or.inl ⟨by decide, 4, _, rfl, by decide, rfl⟩⟩⟩⟩
theorem cl_1_393 : CallOk 4489 (197, (4, false)) := ⟨(show xM "RightsHouse" 393 Y_Le_hasRight 4 from ⟨k_7_68, k_1_8, k_7_61, by decide, by decide, by decide +kernel⟩), ⟨fun q => absurd q (by decide), fun _ => ⟨⟨k_7_59, k_7_60⟩, fun fr lo nl t q h => by
  have e : t_room.get 197 = some (3, (90, (5, (2, 52)))) := by decide +kernel
  rw [e] at h
  cases h
  exact Or.inl ⟨by decide, 4, _, rfl, by decide, rfl⟩⟩⟩⟩
theorem cl_1_399 : CallOk 4495 (199, (7, false)) := ⟨(show xM "RightsHouse" 399 Y_Le_add 7 from ⟨k_7_69, k_1_8, k_7_72, by decide, by decide, by decide +kernel⟩), ⟨fun q => absurd q (by decide), fun _ => ⟨⟨k_7_70, k_7_71⟩, fun fr lo nl t q h => by
  have e : t_room.get 199 = some (1, (40, (9, (1, 52)))) := by decide +kernel
  rw [e] at h
  cases h
  exact Or.inl ⟨by decide, 4, _, rfl, by decide, rfl⟩⟩⟩⟩
theorem cl_1_405 : CallOk 4501 (202, (3, false)) := ⟨(show xM "RightsHouse" 405 Y_Le_keepChain 3 from ⟨k_7_81, k_1_8, k_7_84, by decide, by decide, by decide +kernel⟩), ⟨fun q => absurd q (by decide), fun _ => ⟨⟨k_7_82, k_7_83⟩, fun fr lo nl t q h => by
  have e : t_room.get 202 = some (4, (114, (10, (2, 52)))) := by decide +kernel
  rw [e] at h
  cases h
  exact Or.inl ⟨by decide, 4, _, rfl, by decide, rfl⟩⟩⟩⟩
theorem cl_1_414 : CallOk 4510 (205, (0, false)) := ⟨(show xM "RightsHouse" 414 Y_Le_spendChain 0 from ⟨k_7_93, k_1_8, k_7_96, by decide, by decide, by decide +kernel⟩), ⟨fun q => absurd q (by decide), fun _ => ⟨⟨k_7_94, k_7_95⟩, fun fr lo nl t q h => by
  have e : t_room.get 205 = some (1, (40, (3, (0, 52)))) := by decide +kernel
  rw [e] at h
  cases h
  exact Or.inl ⟨by decide, 4, _, rfl, by decide, rfl⟩⟩⟩⟩
theorem cl_1_417 : CallOk 4513 (208, (1, true)) := ⟨(show xM "RightsHouse" 417 Y_H_isHolder 1 from ⟨k_7_105, k_1_1, k_7_107, by decide, by decide, by decide +kernel⟩), ⟨fun _ => k_7_106, fun q => absurd q (by decide)⟩⟩
theorem cl_1_420 : CallOk 4516 (209, (3, false)) := ⟨(show xM "RightsHouse" 420 Y_Le_setKey 3 from ⟨k_7_108, k_1_8, k_7_111, by decide, by decide, by decide +kernel⟩), ⟨fun q => absurd q (by decide), fun _ => ⟨⟨k_7_109, k_7_110⟩, fun fr lo nl t q h => by
  have e : t_room.get 209 = some (1, (40, (5, (1, 52)))) := by decide +kernel
  rw [e] at h
  cases h
  exact Or.inl ⟨by decide, 4, _, rfl, by decide, rfl⟩⟩⟩⟩
theorem cl_1_423 : CallOk 4519 (214, (3, false)) := ⟨(show xM "RightsHouse" 423 Y_Le_gainsUntil 3 from ⟨k_7_116, k_1_8, k_7_119, by decide, by decide, by decide +kernel⟩), ⟨fun q => absurd q (by decide), fun _ => ⟨⟨k_7_117, k_7_118⟩, fun fr lo nl t q h => by
  have e : t_room.get 214 = some (4, (109, (8, (1, 52)))) := by decide +kernel
  rw [e] at h
  cases h
  exact Or.inl ⟨by decide, 4, _, rfl, by decide, rfl⟩⟩⟩⟩
theorem cl_1_426 : CallOk 4522 (213, (0, false)) := ⟨(show xM "RightsHouse" 426 Y_Le_countGains 0 from ⟨k_7_136, k_1_8, k_7_123, by decide, by decide, by decide +kernel⟩), ⟨fun q => absurd q (by decide), fun _ => ⟨⟨k_7_121, k_7_122⟩, fun fr lo nl t q h => by
  have e : t_room.get 213 = some (3, (87, (3, (1, 52)))) := by decide +kernel
  rw [e] at h
  cases h
  exact Or.inl ⟨by decide, 4, _, rfl, by decide, rfl⟩⟩⟩⟩
theorem cl_1_436 : CallOk 4532 (219, (4, true)) := ⟨(show xM "RightsHouse" 436 Y_Fl_isStatement 4 from ⟨k_7_145, k_1_9, k_7_147, by decide, by decide, by decide +kernel⟩), ⟨fun _ => k_7_146, fun q => absurd q (by decide)⟩⟩
theorem cl_1_439 : CallOk 4535 (222, (2, false)) := ⟨(show xM "RightsHouse" 439 Y_Fl_reachesOut 2 from ⟨k_7_151, k_1_9, k_7_154, by decide, by decide, by decide +kernel⟩), ⟨fun q => absurd q (by decide), fun _ => ⟨⟨k_7_152, k_7_153⟩, fun fr lo nl t q h => by
  have e : t_room.get 222 = some (3, (82, (5, (2, 59)))) := by decide +kernel
  rw [e] at h
  cases h
  exact Or.inl ⟨by decide, 0, _, rfl, by decide, rfl⟩⟩⟩⟩
theorem cl_1_445 : CallOk 4541 (223, (4, false)) := ⟨(show xM "RightsHouse" 445 Y_Fl_addStatement 4 from ⟨k_7_162, k_1_9, k_7_165, by decide, by decide, by decide +kernel⟩), ⟨fun q => absurd q (by decide), fun _ => ⟨⟨k_7_163, k_7_164⟩, fun fr lo nl t q h => by
  have e : t_room.get 223 = some (1, (40, (5, (1, 59)))) := by decide +kernel
  rw [e] at h
  cases h
  exact Or.inl ⟨by decide, 0, _, rfl, by decide, rfl⟩⟩⟩⟩
theorem cl_1_448 : CallOk 4544 (228, (0, false)) := ⟨(show xM "RightsHouse" 448 Y_Fl_firstLoose 0 from ⟨k_7_174, k_1_9, k_7_177, by decide, by decide, by decide +kernel⟩), ⟨fun q => absurd q (by decide), fun _ => ⟨⟨k_7_175, k_7_176⟩, fun fr lo nl t q h => by
  have e : t_room.get 228 = some (4, (105, (2, (1, 59)))) := by decide +kernel
  rw [e] at h
  cases h
  exact Or.inl ⟨by decide, 0, _, rfl, by decide, rfl⟩⟩⟩⟩
theorem cl_1_451 : CallOk 4547 (230, (0, false)) := ⟨(show xM "RightsHouse" 451 Y_Fl_countLowers 0 from ⟨k_7_189, k_1_9, k_7_192, by decide, by decide, by decide +kernel⟩), ⟨fun q => absurd q (by decide), fun _ => ⟨⟨k_7_190, k_7_191⟩, fun fr lo nl t q h => by
  have e : t_room.get 230 = some (1, (40, (3, (1, 59)))) := by decide +kernel
  rw [e] at h
  cases h
  exact Or.inl ⟨by decide, 0, _, rfl, by decide, rfl⟩⟩⟩⟩
theorem cl_1_457 : CallOk 4553 (237, (1, false)) := ⟨(show xM "RightsHouse" 457 Y_Fl_run 1 from ⟨k_7_201, k_1_9, k_7_204, by decide, by decide, by decide +kernel⟩), ⟨fun q => absurd q (by decide), fun _ => ⟨⟨k_7_202, k_7_203⟩, fun fr lo nl t q h => by
  have e : t_room.get 237 = some (3, (83, (4, (1, 59)))) := by decide +kernel
  rw [e] at h
  cases h
  exact Or.inl ⟨by decide, 0, _, rfl, by decide, rfl⟩⟩⟩⟩
theorem cl_1_472 : CallOk 4568 (241, (1, true)) := ⟨(show xM "RightsHouse" 472 Y_H_isAsker 1 from ⟨k_7_237, k_1_1, k_7_239, by decide, by decide, by decide +kernel⟩), ⟨fun _ => k_7_238, fun q => absurd q (by decide)⟩⟩
theorem cl_1_475 : CallOk 4571 (243, (2, false)) := ⟨(show xM "RightsHouse" 475 Y_Gu_wasTold 2 from ⟨k_8_0, k_1_10, k_8_3, by decide, by decide, by decide +kernel⟩), ⟨fun q => absurd q (by decide), fun _ => ⟨⟨k_8_1, k_8_2⟩, fun fr lo nl t q h => by
  have e : t_room.get 243 = some (1, (40, (4, (2, 70)))) := by decide +kernel
  rw [e] at h
  cases h
  exact Or.inl ⟨by decide, 2, _, rfl, by decide, rfl⟩⟩⟩⟩
theorem cl_1_478 : CallOk 4574 (244, (1, false)) := ⟨(show xM "RightsHouse" 478 Y_Gu_total 1 from ⟨k_8_4, k_1_10, k_8_7, by decide, by decide, by decide +kernel⟩), ⟨fun q => absurd q (by decide), fun _ => ⟨⟨k_8_5, k_8_6⟩, fun fr lo nl t q h => by
  have e : t_room.get 244 = some (1, (40, (5, (3, 70)))) := by decide +kernel
  rw [e] at h
  cases h
  exact Or.inl ⟨by decide, 2, _, rfl, by decide, rfl⟩⟩⟩⟩
theorem cl_1_490 : CallOk 4586 (248, (2, false)) := ⟨(show xM "RightsHouse" 490 Y_Gu_wouldReveal 2 from ⟨k_8_9, k_1_10, k_8_12, by decide, by decide, by decide +kernel⟩), ⟨fun q => absurd q (by decide), fun _ => ⟨⟨k_8_10, k_8_11⟩, fun fr lo nl t q h => by
  have e : t_room.get 248 = some (4, (115, (6, (2, 70)))) := by decide +kernel
  rw [e] at h
  cases h
  exact Or.inl ⟨by decide, 2, _, rfl, by decide, rfl⟩⟩⟩⟩
theorem cl_1_495 : CallOk 4591 (249, (2, false)) := ⟨(show xM "RightsHouse" 495 Y_Gu_tell 2 from ⟨k_8_26, k_1_10, k_8_29, by decide, by decide, by decide +kernel⟩), ⟨fun q => absurd q (by decide), fun _ => ⟨⟨k_8_27, k_8_28⟩, fun fr lo nl t q h => by
  have e : t_room.get 249 = some (1, (40, (3, (0, 70)))) := by decide +kernel
  rw [e] at h
  cases h
  exact Or.inl ⟨by decide, 2, _, rfl, by decide, rfl⟩⟩⟩⟩
theorem cl_1_498 : CallOk 4594 (251, (1, false)) := ⟨(show xM "RightsHouse" 498 Y_Gu_join 1 from ⟨k_8_34, k_1_10, k_8_37, by decide, by decide, by decide +kernel⟩), ⟨fun q => absurd q (by decide), fun _ => ⟨⟨k_8_35, k_8_36⟩, fun fr lo nl t q h => by
  have e : t_room.get 251 = some (1, (40, (3, (0, 70)))) := by decide +kernel
  rw [e] at h
  cases h
  exact Or.inl ⟨by decide, 2, _, rfl, by decide, rfl⟩⟩⟩⟩
theorem cl_1_501 : CallOk 4597 (254, (1, false)) := ⟨(show xM "RightsHouse" 501 Y_Gu_countSets 1 from ⟨k_8_42, k_1_10, k_8_45, by decide, by decide, by decide +kernel⟩), ⟨fun q => absurd q (by decide), fun _ => ⟨⟨k_8_43, k_8_44⟩, fun fr lo nl t q h => by
  have e : t_room.get 254 = some (3, (86, (6, (1, 70)))) := by decide +kernel
  rw [e] at h
  cases h
  exact Or.inl ⟨by decide, 2, _, rfl, by decide, rfl⟩⟩⟩⟩
theorem cl_1_504 : CallOk 4600 (247, (1, false)) := ⟨(show xM "RightsHouse" 504 Y_Gu_rankOf 1 from ⟨k_8_51, k_1_10, k_8_16, by decide, by decide, by decide +kernel⟩), ⟨fun q => absurd q (by decide), fun _ => ⟨⟨k_8_14, k_8_15⟩, fun fr lo nl t q h => by
  have e : t_room.get 247 = some (3, (92, (4, (1, 70)))) := by decide +kernel
  rw [e] at h
  cases h
  exact Or.inl ⟨by decide, 2, _, rfl, by decide, rfl⟩⟩⟩⟩
theorem cl_1_507 : CallOk 4603 (256, (1, true)) := ⟨(show xM "RightsHouse" 507 Y_Ga_areRights 1 from ⟨k_8_56, k_1_11, k_8_58, by decide, by decide, by decide +kernel⟩), ⟨fun _ => k_8_57, fun q => absurd q (by decide)⟩⟩
theorem cl_1_513 : CallOk 4609 (257, (1, false)) := ⟨(show xM "RightsHouse" 513 Y_Ga_addRoom 1 from ⟨k_8_60, k_1_11, k_8_63, by decide, by decide, by decide +kernel⟩), ⟨fun q => absurd q (by decide), fun _ => ⟨⟨k_8_61, k_8_62⟩, fun fr lo nl t q h => by
  have e : t_room.get 257 = some (1, (40, (2, (1, 98)))) := by decide +kernel
  rw [e] at h
  cases h
  exact Or.inl ⟨by decide, 1, _, rfl, by decide, rfl⟩⟩⟩⟩
theorem cl_1_519 : CallOk 4615 (259, (1, false)) := ⟨(show xM "RightsHouse" 519 Y_Ga_addMethod 1 from ⟨k_8_68, k_1_11, k_8_71, by decide, by decide, by decide +kernel⟩), ⟨fun q => absurd q (by decide), fun _ => ⟨⟨k_8_69, k_8_70⟩, fun fr lo nl t q h => by
  have e : t_room.get 259 = some (1, (40, (2, (1, 98)))) := by decide +kernel
  rw [e] at h
  cases h
  exact Or.inl ⟨by decide, 1, _, rfl, by decide, rfl⟩⟩⟩⟩
theorem cl_1_522 : CallOk 4618 (261, (3, true)) := ⟨(show xM "RightsHouse" 522 Y_Ga_isOp 3 from ⟨k_8_76, k_1_11, k_8_78, by decide, by decide, by decide +kernel⟩), ⟨fun _ => k_8_77, fun q => absurd q (by decide)⟩⟩
theorem cl_1_528 : CallOk 4624 (262, (4, false)) := ⟨(show xM "RightsHouse" 528 Y_Ga_addOp 4 from ⟨k_8_80, k_1_11, k_8_83, by decide, by decide, by decide +kernel⟩), ⟨fun q => absurd q (by decide), fun _ => ⟨⟨k_8_81, k_8_82⟩, fun fr lo nl t q h => by
  have e : t_room.get 262 = some (1, (40, (6, (1, 98)))) := by decide +kernel
  rw [e] at h
  cases h
  exact Or.inl ⟨by decide, 1, _, rfl, by decide, rfl⟩⟩⟩⟩
theorem cl_1_531 : CallOk 4627 (270, (2, false)) := ⟨(show xM "RightsHouse" 531 Y_Ga_run 2 from ⟨k_8_88, k_1_11, k_8_91, by decide, by decide, by decide +kernel⟩), ⟨fun q => absurd q (by decide), fun _ => ⟨⟨k_8_89, k_8_90⟩, fun fr lo nl t q h => by
  have e : t_room.get 270 = some (4, (113, (5, (1, 98)))) := by decide +kernel
  rw [e] at h
  cases h
  exact Or.inl ⟨by decide, 1, _, rfl, by decide, rfl⟩⟩⟩⟩
theorem cl_1_537 : CallOk 4633 (273, (1, false)) := ⟨(show xM "RightsHouse" 537 Y_H_tapeNumber 1 from ⟨k_8_125, k_1_1, k_8_128, by decide, by decide, by decide +kernel⟩), ⟨fun q => absurd q (by decide), fun _ => ⟨⟨k_8_127, (tb_s (q := (⟨"RightsHouse", "tapeNumber", "(I)J"⟩, 18)) (by decide +kernel))⟩, fun fr lo nl t q h => by
  have e : t_room.get 273 = some (1, (40, (5, (3, 0)))) := by decide +kernel
  rw [e] at h
  cases h
  exact Or.inl ⟨by decide, 10, _, rfl, by decide, rfl⟩⟩⟩⟩
theorem cl_1_542 : CallOk 4638 (275, (0, false)) := ⟨(show xM "RightsHouse" 542 Y_H_areHalves 0 from ⟨k_8_134, k_1_1, k_8_137, by decide, by decide, by decide +kernel⟩), ⟨fun q => absurd q (by decide), fun _ => ⟨⟨k_8_136, (tb_s (q := (⟨"RightsHouse", "areHalves", "()Z"⟩, 18)) (by decide +kernel))⟩, fun fr lo nl t q h => by
  have e : t_room.get 275 = some (2, (64, (5, (2, 0)))) := by decide +kernel
  rw [e] at h
  cases h
  exact Or.inl ⟨by decide, 10, _, rfl, by decide, rfl⟩⟩⟩⟩
theorem cl_1_546 : CallOk 4642 (277, (1, false)) := ⟨(show xM "RightsHouse" 546 Y_H_weightOf 1 from ⟨k_8_139, k_1_1, k_8_142, by decide, by decide, by decide +kernel⟩), ⟨fun q => absurd q (by decide), fun _ => ⟨⟨k_8_141, (tb_s (q := (⟨"RightsHouse", "weightOf", "(I)J"⟩, 18)) (by decide +kernel))⟩, fun fr lo nl t q h => by
  have e : t_room.get 277 = some (2, (67, (11, (3, 0)))) := by decide +kernel
  rw [e] at h
  cases h
  exact Or.inl ⟨by decide, 10, _, rfl, by decide, rfl⟩⟩⟩⟩
theorem cl_1_551 : CallOk 4647 (276, (1, true)) := ⟨(show xM "RightsHouse" 551 Y_H_inverse 1 from ⟨k_8_143, k_1_1, k_8_145, by decide, by decide, by decide +kernel⟩), ⟨fun _ => k_8_144, fun q => absurd q (by decide)⟩⟩
theorem cl_1_559 : CallOk 4655 (107, (1, false)) := ⟨(show xM "RightsHouse" 559 Y_H_sumAhead 1 from ⟨k_5_159, k_1_1, k_5_162, by decide, by decide, by decide +kernel⟩), ⟨fun q => absurd q (by decide), fun _ => ⟨⟨k_5_161, (tb_s (q := (⟨"RightsHouse", "sumAhead", "(I)I"⟩, 18)) (by decide +kernel))⟩, fun fr lo nl t q h => by
  have e : t_room.get 107 = some (1, (40, (2, (1, 0)))) := by decide +kernel
  rw [e] at h
  cases h
  exact Or.inl ⟨by decide, 10, _, rfl, by decide, rfl⟩⟩⟩⟩
theorem cl_1_562 : CallOk 4658 (108, (2, false)) := ⟨(show xM "RightsHouse" 562 Y_H_sumBehind 2 from ⟨k_5_163, k_1_1, k_5_166, by decide, by decide, by decide +kernel⟩), ⟨fun q => absurd q (by decide), fun _ => ⟨⟨k_5_165, (tb_s (q := (⟨"RightsHouse", "sumBehind", "(II)I"⟩, 18)) (by decide +kernel))⟩, fun fr lo nl t q h => by
  have e : t_room.get 108 = some (1, (40, (5, (1, 0)))) := by decide +kernel
  rw [e] at h
  cases h
  exact Or.inl ⟨by decide, 10, _, rfl, by decide, rfl⟩⟩⟩⟩
theorem cl_2_42 : CallOk 8234 (218, (1, true)) := ⟨(show xM "RightsHouse$Flows" 42 Y_Fl_isVariable 1 from ⟨k_7_148, k_1_9, k_7_150, by decide, by decide, by decide +kernel⟩), ⟨fun _ => k_7_149, fun q => absurd q (by decide)⟩⟩
theorem cl_2_46 : CallOk 8238 (220, (1, true)) := ⟨(show xM "RightsHouse$Flows" 46 Y_Fl_isBlock 1 from ⟨k_7_155, k_1_9, k_7_157, by decide, by decide, by decide +kernel⟩), ⟨fun _ => k_7_156, fun q => absurd q (by decide)⟩⟩
theorem cl_2_53 : CallOk 8245 (221, (2, false)) := ⟨(show xM "RightsHouse$Flows" 53 Y_Fl_isWithin 2 from ⟨k_7_158, k_1_9, k_7_161, by decide, by decide, by decide +kernel⟩), ⟨fun q => absurd q (by decide), fun _ => ⟨⟨k_7_160, (tb_s (q := (⟨"RightsHouse$Flows", "isWithin", "(II)Z"⟩, 12)) (by decide +kernel))⟩, fun fr lo nl t q h => by
  have e : t_room.get 221 = some (2, (60, (3, (2, 59)))) := by decide +kernel
  rw [e] at h
  cases h
  exact Or.inl ⟨by decide, 0, _, rfl, by decide, rfl⟩⟩⟩⟩
theorem cl_2_57 : CallOk 8249 (227, (1, false)) := ⟨(show xM "RightsHouse$Flows" 57 Y_Fl_isTight 1 from ⟨k_7_178, k_1_9, k_7_181, by decide, by decide, by decide +kernel⟩), ⟨fun q => absurd q (by decide), fun _ => ⟨⟨k_7_180, (tb_s (q := (⟨"RightsHouse$Flows", "isTight", "(I)Z"⟩, 12)) (by decide +kernel))⟩, fun fr lo nl t q h => by
  have e : t_room.get 227 = some (3, (82, (4, (2, 59)))) := by decide +kernel
  rw [e] at h
  cases h
  exact Or.inl ⟨by decide, 0, _, rfl, by decide, rfl⟩⟩⟩⟩
theorem cl_2_60 : CallOk 8252 (226, (2, true)) := ⟨(show xM "RightsHouse$Flows" 60 Y_Fl_doesFlow 2 from ⟨k_7_182, k_1_9, k_7_184, by decide, by decide, by decide +kernel⟩), ⟨fun _ => k_7_183, fun q => absurd q (by decide)⟩⟩
theorem cl_2_66 : CallOk 8258 (233, (1, false)) := ⟨(show xM "RightsHouse$Flows" 66 Y_Fl_behindBlock 1 from ⟨k_7_205, k_1_9, k_7_208, by decide, by decide, by decide +kernel⟩), ⟨fun q => absurd q (by decide), fun _ => ⟨⟨k_7_207, (tb_s (q := (⟨"RightsHouse$Flows", "behindBlock", "(I)I"⟩, 12)) (by decide +kernel))⟩, fun fr lo nl t q h => by
  have e : t_room.get 233 = some (1, (40, (3, (1, 59)))) := by decide +kernel
  rw [e] at h
  cases h
  exact Or.inl ⟨by decide, 0, _, rfl, by decide, rfl⟩⟩⟩⟩
theorem cl_2_70 : CallOk 8262 (236, (1, false)) := ⟨(show xM "RightsHouse$Flows" 70 Y_Fl_runOne 1 from ⟨k_7_209, k_1_9, k_7_212, by decide, by decide, by decide +kernel⟩), ⟨fun q => absurd q (by decide), fun _ => ⟨⟨k_7_211, (tb_s (q := (⟨"RightsHouse$Flows", "runOne", "(I)I"⟩, 12)) (by decide +kernel))⟩, fun fr lo nl t q h => by
  have e : t_room.get 236 = some (2, (62, (2, (1, 59)))) := by decide +kernel
  rw [e] at h
  cases h
  exact Or.inl ⟨by decide, 0, _, rfl, by decide, rfl⟩⟩⟩⟩
theorem cl_2_73 : CallOk 8265 (234, (2, false)) := ⟨(show xM "RightsHouse$Flows" 73 Y_Fl_sayOn 2 from ⟨k_7_213, k_1_9, k_7_216, by decide, by decide, by decide +kernel⟩), ⟨fun q => absurd q (by decide), fun _ => ⟨⟨k_7_215, (tb_s (q := (⟨"RightsHouse$Flows", "sayOn", "(II)V"⟩, 12)) (by decide +kernel))⟩, fun fr lo nl t q h => by
  have e : t_room.get 234 = some (1, (40, (3, (0, 59)))) := by decide +kernel
  rw [e] at h
  cases h
  exact Or.inl ⟨by decide, 0, _, rfl, by decide, rfl⟩⟩⟩⟩
theorem cl_2_77 : CallOk 8269 (235, (1, false)) := ⟨(show xM "RightsHouse$Flows" 77 Y_Fl_runBlock 1 from ⟨k_7_217, k_1_9, k_7_220, by decide, by decide, by decide +kernel⟩), ⟨fun q => absurd q (by decide), fun _ => ⟨⟨k_7_219, (tb_s (q := (⟨"RightsHouse$Flows", "runBlock", "(I)I"⟩, 12)) (by decide +kernel))⟩, fun fr lo nl t q h => by
  have e : t_room.get 235 = some (1, (40, (2, (1, 59)))) := by decide +kernel
  rw [e] at h
  cases h
  exact Or.inl ⟨by decide, 0, _, rfl, by decide, rfl⟩⟩⟩⟩
theorem cl_3_46 : CallOk 12334 (256, (1, true)) := ⟨(show xM "RightsHouse$Gates" 46 Y_Ga_areRights 1 from ⟨k_8_79, k_1_11, k_8_58, by decide, by decide, by decide +kernel⟩), ⟨fun _ => k_8_57, fun q => absurd q (by decide)⟩⟩
theorem cl_3_60 : CallOk 12348 (264, (3, false)) := ⟨(show xM "RightsHouse$Gates" 60 Y_Ga_push 3 from ⟨k_8_92, k_1_11, k_8_95, by decide, by decide, by decide +kernel⟩), ⟨fun q => absurd q (by decide), fun _ => ⟨⟨k_8_94, (tb_s (q := (⟨"RightsHouse$Gates", "push", "(III)V"⟩, 14)) (by decide +kernel))⟩, fun fr lo nl t q h => by
  have e : t_room.get 264 = some (1, (40, (4, (0, 98)))) := by decide +kernel
  rw [e] at h
  cases h
  exact Or.inl ⟨by decide, 1, _, rfl, by decide, rfl⟩⟩⟩⟩
theorem cl_3_64 : CallOk 12352 (269, (1, false)) := ⟨(show xM "RightsHouse$Gates" 64 Y_Ga_goOn 1 from ⟨k_8_96, k_1_11, k_8_99, by decide, by decide, by decide +kernel⟩), ⟨fun q => absurd q (by decide), fun _ => ⟨⟨k_8_98, (tb_s (q := (⟨"RightsHouse$Gates", "goOn", "(I)I"⟩, 14)) (by decide +kernel))⟩, fun fr lo nl t q h => by
  have e : t_room.get 269 = some (3, (87, (7, (1, 98)))) := by decide +kernel
  rw [e] at h
  cases h
  exact Or.inl ⟨by decide, 1, _, rfl, by decide, rfl⟩⟩⟩⟩
theorem cl_3_68 : CallOk 12356 (266, (1, false)) := ⟨(show xM "RightsHouse$Gates" 68 Y_Ga_lackingOf 1 from ⟨k_8_100, k_1_11, k_8_103, by decide, by decide, by decide +kernel⟩), ⟨fun q => absurd q (by decide), fun _ => ⟨⟨k_8_102, (tb_s (q := (⟨"RightsHouse$Gates", "lackingOf", "(I)I"⟩, 14)) (by decide +kernel))⟩, fun fr lo nl t q h => by
  have e : t_room.get 266 = some (2, (62, (5, (1, 98)))) := by decide +kernel
  rw [e] at h
  cases h
  exact Or.inl ⟨by decide, 1, _, rfl, by decide, rfl⟩⟩⟩⟩
theorem cl_3_71 : CallOk 12359 (267, (3, false)) := ⟨(show xM "RightsHouse$Gates" 71 Y_Ga_throwOut 3 from ⟨k_8_108, k_1_11, k_8_111, by decide, by decide, by decide +kernel⟩), ⟨fun q => absurd q (by decide), fun _ => ⟨⟨k_8_110, (tb_s (q := (⟨"RightsHouse$Gates", "throwOut", "(IIZ)I"⟩, 14)) (by decide +kernel))⟩, fun fr lo nl t q h => by
  have e : t_room.get 267 = some (1, (40, (7, (1, 98)))) := by decide +kernel
  rw [e] at h
  cases h
  exact Or.inl ⟨by decide, 1, _, rfl, by decide, rfl⟩⟩⟩⟩
theorem cl_3_75 : CallOk 12363 (268, (1, false)) := ⟨(show xM "RightsHouse$Gates" 75 Y_Ga_callBy 1 from ⟨k_8_112, k_1_11, k_8_115, by decide, by decide, by decide +kernel⟩), ⟨fun q => absurd q (by decide), fun _ => ⟨⟨k_8_114, (tb_s (q := (⟨"RightsHouse$Gates", "callBy", "(I)I"⟩, 14)) (by decide +kernel))⟩, fun fr lo nl t q h => by
  have e : t_room.get 268 = some (2, (66, (2, (1, 98)))) := by decide +kernel
  rw [e] at h
  cases h
  exact Or.inl ⟨by decide, 1, _, rfl, by decide, rfl⟩⟩⟩⟩
theorem cl_3_78 : CallOk 12366 (265, (2, false)) := ⟨(show xM "RightsHouse$Gates" 78 Y_Ga_lackingIn 2 from ⟨k_8_104, k_1_11, k_8_107, by decide, by decide, by decide +kernel⟩), ⟨fun q => absurd q (by decide), fun _ => ⟨⟨k_8_106, (tb_s (q := (⟨"RightsHouse$Gates", "lackingIn", "(II)I"⟩, 14)) (by decide +kernel))⟩, fun fr lo nl t q h => by
  have e : t_room.get 265 = some (1, (40, (3, (1, 98)))) := by decide +kernel
  rw [e] at h
  cases h
  exact Or.inl ⟨by decide, 1, _, rfl, by decide, rfl⟩⟩⟩⟩
theorem cl_4_38 : CallOk 16422 (253, (2, false)) := ⟨(show xM "RightsHouse$Guard" 38 Y_Gu_wasToldToAny 2 from ⟨k_8_46, k_1_10, k_8_49, by decide, by decide, by decide +kernel⟩), ⟨fun q => absurd q (by decide), fun _ => ⟨⟨k_8_48, (tb_s (q := (⟨"RightsHouse$Guard", "wasToldToAny", "(II)Z"⟩, 9)) (by decide +kernel))⟩, fun fr lo nl t q h => by
  have e : t_room.get 253 = some (2, (63, (4, (2, 70)))) := by decide +kernel
  rw [e] at h
  cases h
  exact Or.inl ⟨by decide, 2, _, rfl, by decide, rfl⟩⟩⟩⟩
theorem cl_4_42 : CallOk 16426 (243, (2, false)) := ⟨(show xM "RightsHouse$Guard" 42 Y_Gu_wasTold 2 from ⟨k_8_50, k_1_10, k_8_3, by decide, by decide, by decide +kernel⟩), ⟨fun q => absurd q (by decide), fun _ => ⟨⟨k_8_1, k_8_2⟩, fun fr lo nl t q h => by
  have e : t_room.get 243 = some (1, (40, (4, (2, 70)))) := by decide +kernel
  rw [e] at h
  cases h
  exact Or.inl ⟨by decide, 2, _, rfl, by decide, rfl⟩⟩⟩⟩
theorem cl_4_53 : CallOk 16437 (246, (1, false)) := ⟨(show xM "RightsHouse$Guard" 53 Y_Gu_addRow 1 from ⟨k_8_17, k_1_10, k_8_20, by decide, by decide, by decide +kernel⟩), ⟨fun q => absurd q (by decide), fun _ => ⟨⟨k_8_19, (tb_s (q := (⟨"RightsHouse$Guard", "addRow", "(I)V"⟩, 9)) (by decide +kernel))⟩, fun fr lo nl t q h => by
  have e : t_room.get 246 = some (2, (66, (7, (0, 70)))) := by decide +kernel
  rw [e] at h
  cases h
  exact Or.inl ⟨by decide, 2, _, rfl, by decide, rfl⟩⟩⟩⟩
theorem cl_4_57 : CallOk 16441 (247, (1, false)) := ⟨(show xM "RightsHouse$Guard" 57 Y_Gu_rankOf 1 from ⟨k_8_13, k_1_10, k_8_16, by decide, by decide, by decide +kernel⟩), ⟨fun q => absurd q (by decide), fun _ => ⟨⟨k_8_14, k_8_15⟩, fun fr lo nl t q h => by
  have e : t_room.get 247 = some (3, (92, (4, (1, 70)))) := by decide +kernel
  rw [e] at h
  cases h
  exact Or.inl ⟨by decide, 2, _, rfl, by decide, rfl⟩⟩⟩⟩
theorem cl_4_61 : CallOk 16445 (245, (1, false)) := ⟨(show xM "RightsHouse$Guard" 61 Y_Gu_reduce 1 from ⟨k_8_21, k_1_10, k_8_24, by decide, by decide, by decide +kernel⟩), ⟨fun q => absurd q (by decide), fun _ => ⟨⟨k_8_23, (tb_s (q := (⟨"RightsHouse$Guard", "reduce", "(I)I"⟩, 9)) (by decide +kernel))⟩, fun fr lo nl t q h => by
  have e : t_room.get 245 = some (1, (40, (7, (1, 70)))) := by decide +kernel
  rw [e] at h
  cases h
  exact Or.inl ⟨by decide, 2, _, rfl, by decide, rfl⟩⟩⟩⟩
theorem cl_5_57 : CallOk 20537 (142, (3, false)) := ⟨(show xM "RightsHouse$Judge" 57 Y_Ju_answer 3 from ⟨k_5_193, k_1_5, k_5_196, by decide, by decide, by decide +kernel⟩), ⟨fun q => absurd q (by decide), fun _ => ⟨⟨k_5_195, (tb_s (q := (⟨"RightsHouse$Judge", "answer", "(III)I"⟩, 20)) (by decide +kernel))⟩, fun fr lo nl t q h => by
  have e : t_room.get 142 = some (24, (704, (11, (1, 27)))) := by decide +kernel
  rw [e] at h
  cases h
  exact Or.inl ⟨by decide, 3, _, rfl, by decide, rfl⟩⟩⟩⟩
theorem cl_5_79 : CallOk 20559 (75, (2, true)) := ⟨(show xM "RightsHouse$Judge" 79 Y_Po_ruleAt 2 from ⟨k_5_197, k_1_4, k_5_0, by decide, by decide, by decide +kernel⟩), ⟨fun _ => k_4_239, fun q => absurd q (by decide)⟩⟩
theorem cl_5_83 : CallOk 20563 (140, (2, false)) := ⟨(show xM "RightsHouse$Judge" 83 Y_Ju_spoken 2 from ⟨k_5_198, k_1_5, k_5_201, by decide, by decide, by decide +kernel⟩), ⟨fun q => absurd q (by decide), fun _ => ⟨⟨k_5_200, (tb_s (q := (⟨"RightsHouse$Judge", "spoken", "(II)I"⟩, 20)) (by decide +kernel))⟩, fun fr lo nl t q h => by
  have e : t_room.get 140 = some (23, (680, (5, (1, 27)))) := by decide +kernel
  rw [e] at h
  cases h
  exact Or.inl ⟨by decide, 3, _, rfl, by decide, rfl⟩⟩⟩⟩
theorem cl_5_89 : CallOk 20569 (141, (3, false)) := ⟨(show xM "RightsHouse$Judge" 89 Y_Ju_weightOf 3 from ⟨k_6_65, k_1_5, k_6_68, by decide, by decide, by decide +kernel⟩), ⟨fun q => absurd q (by decide), fun _ => ⟨⟨k_6_67, (tb_s (q := (⟨"RightsHouse$Judge", "weightOf", "(III)I"⟩, 20)) (by decide +kernel))⟩, fun fr lo nl t q h => by
  have e : t_room.get 141 = some (2, (64, (6, (1, 27)))) := by decide +kernel
  rw [e] at h
  cases h
  exact Or.inl ⟨by decide, 3, _, rfl, by decide, rfl⟩⟩⟩⟩
theorem cl_5_98 : CallOk 20578 (43, (1, false)) := ⟨(show xM "RightsHouse$Judge" 98 Y_Th_depthOf 1 from ⟨k_6_69, k_1_3, k_4_53, by decide, by decide, by decide +kernel⟩), ⟨fun q => absurd q (by decide), fun _ => ⟨⟨k_4_51, k_4_52⟩, fun fr lo nl t q h => by
  have e : t_room.get 43 = some (1, (40, (5, (1, 10)))) := by decide +kernel
  rw [e] at h
  cases h
  exact Or.inl ⟨by decide, 7, _, rfl, by decide, rfl⟩⟩⟩⟩
theorem cl_5_107 : CallOk 20587 (115, (1, false)) := ⟨(show xM "RightsHouse$Judge" 107 Y_Ju_fitsWho 1 from ⟨k_5_202, k_1_5, k_5_205, by decide, by decide, by decide +kernel⟩), ⟨fun q => absurd q (by decide), fun _ => ⟨⟨k_5_204, (tb_s (q := (⟨"RightsHouse$Judge", "fitsWho", "(I)Z"⟩, 20)) (by decide +kernel))⟩, fun fr lo nl t q h => by
  have e : t_room.get 115 = some (1, (40, (3, (2, 27)))) := by decide +kernel
  rw [e] at h
  cases h
  exact Or.inl ⟨by decide, 3, _, rfl, by decide, rfl⟩⟩⟩⟩
theorem cl_5_111 : CallOk 20591 (116, (2, false)) := ⟨(show xM "RightsHouse$Judge" 111 Y_Ju_fitsAct 2 from ⟨k_5_206, k_1_5, k_5_209, by decide, by decide, by decide +kernel⟩), ⟨fun q => absurd q (by decide), fun _ => ⟨⟨k_5_208, (tb_s (q := (⟨"RightsHouse$Judge", "fitsAct", "(II)Z"⟩, 20)) (by decide +kernel))⟩, fun fr lo nl t q h => by
  have e : t_room.get 116 = some (2, (62, (5, (2, 27)))) := by decide +kernel
  rw [e] at h
  cases h
  exact Or.inl ⟨by decide, 3, _, rfl, by decide, rfl⟩⟩⟩⟩
theorem cl_5_115 : CallOk 20595 (117, (1, false)) := ⟨(show xM "RightsHouse$Judge" 115 Y_Ju_fitsThing 1 from ⟨k_5_211, k_1_5, k_5_214, by decide, by decide, by decide +kernel⟩), ⟨fun q => absurd q (by decide), fun _ => ⟨⟨k_5_213, (tb_s (q := (⟨"RightsHouse$Judge", "fitsThing", "(I)Z"⟩, 20)) (by decide +kernel))⟩, fun fr lo nl t q h => by
  have e : t_room.get 117 = some (2, (64, (3, (2, 27)))) := by decide +kernel
  rw [e] at h
  cases h
  exact Or.inl ⟨by decide, 3, _, rfl, by decide, rfl⟩⟩⟩⟩
theorem cl_5_118 : CallOk 20598 (139, (2, false)) := ⟨(show xM "RightsHouse$Judge" 118 Y_Ju_truthOf 2 from ⟨k_5_216, k_1_5, k_5_219, by decide, by decide, by decide +kernel⟩), ⟨fun q => absurd q (by decide), fun _ => ⟨⟨k_5_218, (tb_s (q := (⟨"RightsHouse$Judge", "truthOf", "(II)I"⟩, 20)) (by decide +kernel))⟩, fun fr lo nl t q h => by
  have e : t_room.get 139 = some (22, (655, (6, (1, 27)))) := by decide +kernel
  rw [e] at h
  cases h
  exact Or.inl ⟨by decide, 3, _, rfl, by decide, rfl⟩⟩⟩⟩
theorem cl_5_124 : CallOk 20604 (50, (2, false)) := ⟨(show xM "RightsHouse$Judge" 124 Y_Th_actHolds 2 from ⟨k_5_210, k_1_3, k_4_80, by decide, by decide, by decide +kernel⟩), ⟨fun q => absurd q (by decide), fun _ => ⟨⟨k_4_78, k_4_79⟩, fun fr lo nl t q h => by
  have e : t_room.get 50 = some (1, (40, (3, (2, 10)))) := by decide +kernel
  rw [e] at h
  cases h
  exact Or.inl ⟨by decide, 7, _, rfl, by decide, rfl⟩⟩⟩⟩
theorem cl_5_127 : CallOk 20607 (45, (2, false)) := ⟨(show xM "RightsHouse$Judge" 127 Y_Th_isUnder 2 from ⟨k_5_215, k_1_3, k_4_61, by decide, by decide, by decide +kernel⟩), ⟨fun q => absurd q (by decide), fun _ => ⟨⟨k_4_59, k_4_60⟩, fun fr lo nl t q h => by
  have e : t_room.get 45 = some (1, (40, (5, (2, 10)))) := by decide +kernel
  rw [e] at h
  cases h
  exact Or.inl ⟨by decide, 7, _, rfl, by decide, rfl⟩⟩⟩⟩
theorem cl_5_139 : CallOk 20619 (118, (2, false)) := ⟨(show xM "RightsHouse$Judge" 139 Y_Ju_behindSkip 2 from ⟨k_5_220, k_1_5, k_5_223, by decide, by decide, by decide +kernel⟩), ⟨fun q => absurd q (by decide), fun _ => ⟨⟨k_5_222, (tb_s (q := (⟨"RightsHouse$Judge", "behindSkip", "(II)I"⟩, 20)) (by decide +kernel))⟩, fun fr lo nl t q h => by
  have e : t_room.get 118 = some (20, (600, (5, (1, 27)))) := by decide +kernel
  rw [e] at h
  cases h
  exact Or.inl ⟨by decide, 3, _, rfl, by decide, rfl⟩⟩⟩⟩
theorem cl_5_145 : CallOk 20625 (121, (2, false)) := ⟨(show xM "RightsHouse$Judge" 145 Y_Ju_combine 2 from ⟨k_5_225, k_1_5, k_5_228, by decide, by decide, by decide +kernel⟩), ⟨fun q => absurd q (by decide), fun _ => ⟨⟨k_5_227, (tb_s (q := (⟨"RightsHouse$Judge", "combine", "(IJ)V"⟩, 20)) (by decide +kernel))⟩, fun fr lo nl t q h => by
  have e : t_room.get 121 = some (3, (84, (7, (0, 27)))) := by decide +kernel
  rw [e] at h
  cases h
  exact Or.inl ⟨by decide, 3, _, rfl, by decide, rfl⟩⟩⟩⟩
theorem cl_5_149 : CallOk 20629 (125, (2, false)) := ⟨(show xM "RightsHouse$Judge" 149 Y_Ju_load 2 from ⟨k_5_239, k_1_5, k_6_2, by decide, by decide, by decide +kernel⟩), ⟨fun q => absurd q (by decide), fun _ => ⟨⟨k_6_1, (tb_s (q := (⟨"RightsHouse$Judge", "load", "(IJ)I"⟩, 20)) (by decide +kernel))⟩, fun fr lo nl t q h => by
  have e : t_room.get 125 = some (3, (86, (5, (1, 27)))) := by decide +kernel
  rw [e] at h
  cases h
  exact Or.inl ⟨by decide, 3, _, rfl, by decide, rfl⟩⟩⟩⟩
theorem cl_5_153 : CallOk 20633 (131, (1, false)) := ⟨(show xM "RightsHouse$Judge" 153 Y_Ju_calculate 1 from ⟨k_6_15, k_1_5, k_6_18, by decide, by decide, by decide +kernel⟩), ⟨fun q => absurd q (by decide), fun _ => ⟨⟨k_6_17, (tb_s (q := (⟨"RightsHouse$Judge", "calculate", "(I)I"⟩, 20)) (by decide +kernel))⟩, fun fr lo nl t q h => by
  have e : t_room.get 131 = some (3, (116, (6, (1, 27)))) := by decide +kernel
  rw [e] at h
  cases h
  exact Or.inl ⟨by decide, 3, _, rfl, by decide, rfl⟩⟩⟩⟩
theorem cl_5_156 : CallOk 20636 (137, (2, false)) := ⟨(show xM "RightsHouse$Judge" 156 Y_Ju_weigh 2 from ⟨k_6_39, k_1_5, k_6_42, by decide, by decide, by decide +kernel⟩), ⟨fun q => absurd q (by decide), fun _ => ⟨⟨k_6_41, (tb_s (q := (⟨"RightsHouse$Judge", "weigh", "(IJ)I"⟩, 20)) (by decide +kernel))⟩, fun fr lo nl t q h => by
  have e : t_room.get 137 = some (21, (627, (9, (1, 27)))) := by decide +kernel
  rw [e] at h
  cases h
  exact Or.inl ⟨by decide, 3, _, rfl, by decide, rfl⟩⟩⟩⟩
theorem cl_5_159 : CallOk 20639 (138, (2, false)) := ⟨(show xM "RightsHouse$Judge" 159 Y_Ju_endOfComparison 2 from ⟨k_6_61, k_1_5, k_6_64, by decide, by decide, by decide +kernel⟩), ⟨fun q => absurd q (by decide), fun _ => ⟨⟨k_6_63, (tb_s (q := (⟨"RightsHouse$Judge", "endOfComparison", "(II)I"⟩, 20)) (by decide +kernel))⟩, fun fr lo nl t q h => by
  have e : t_room.get 138 = some (1, (40, (4, (1, 27)))) := by decide +kernel
  rw [e] at h
  cases h
  exact Or.inl ⟨by decide, 3, _, rfl, by decide, rfl⟩⟩⟩⟩
theorem cl_5_162 : CallOk 20642 (120, (1, false)) := ⟨(show xM "RightsHouse$Judge" 162 Y_Ju_pushTruth 1 from ⟨k_5_235, k_1_5, k_5_238, by decide, by decide, by decide +kernel⟩), ⟨fun q => absurd q (by decide), fun _ => ⟨⟨k_5_237, (tb_s (q := (⟨"RightsHouse$Judge", "pushTruth", "(I)V"⟩, 20)) (by decide +kernel))⟩, fun fr lo nl t q h => by
  have e : t_room.get 120 = some (1, (40, (2, (0, 27)))) := by decide +kernel
  rw [e] at h
  cases h
  exact Or.inl ⟨by decide, 3, _, rfl, by decide, rfl⟩⟩⟩⟩
theorem cl_5_173 : CallOk 20653 (24, (2, true)) := ⟨(show xM "RightsHouse$Judge" 173 Y_Wh_slotOfPerson 2 from ⟨k_5_233, k_1_2, k_3_213, by decide, by decide, by decide +kernel⟩), ⟨fun _ => k_3_212, fun q => absurd q (by decide)⟩⟩
theorem cl_5_176 : CallOk 20656 (26, (2, true)) := ⟨(show xM "RightsHouse$Judge" 176 Y_Wh_slotOfThing 2 from ⟨k_5_234, k_1_2, k_3_220, by decide, by decide, by decide +kernel⟩), ⟨fun _ => k_3_219, fun q => absurd q (by decide)⟩⟩
theorem cl_5_179 : CallOk 20659 (122, (2, false)) := ⟨(show xM "RightsHouse$Judge" 179 Y_Ju_pushValue 2 from ⟨k_6_3, k_1_5, k_6_6, by decide, by decide, by decide +kernel⟩), ⟨fun q => absurd q (by decide), fun _ => ⟨⟨k_6_5, (tb_s (q := (⟨"RightsHouse$Judge", "pushValue", "(ZJ)I"⟩, 20)) (by decide +kernel))⟩, fun fr lo nl t q h => by
  have e : t_room.get 122 = some (1, (40, (4, (1, 27)))) := by decide +kernel
  rw [e] at h
  cases h
  exact Or.inl ⟨by decide, 3, _, rfl, by decide, rfl⟩⟩⟩⟩
theorem cl_5_183 : CallOk 20663 (119, (1, false)) := ⟨(show xM "RightsHouse$Judge" 183 Y_Ju_slotOf 1 from ⟨k_5_229, k_1_5, k_5_232, by decide, by decide, by decide +kernel⟩), ⟨fun q => absurd q (by decide), fun _ => ⟨⟨k_5_231, (tb_s (q := (⟨"RightsHouse$Judge", "slotOf", "(J)I"⟩, 20)) (by decide +kernel))⟩, fun fr lo nl t q h => by
  have e : t_room.get 119 = some (2, (61, (4, (1, 27)))) := by decide +kernel
  rw [e] at h
  cases h
  exact Or.inl ⟨by decide, 3, _, rfl, by decide, rfl⟩⟩⟩⟩
theorem cl_5_193 : CallOk 20673 (124, (2, false)) := ⟨(show xM "RightsHouse$Judge" 193 Y_Ju_loadItem 2 from ⟨k_6_7, k_1_5, k_6_10, by decide, by decide, by decide +kernel⟩), ⟨fun q => absurd q (by decide), fun _ => ⟨⟨k_6_9, (tb_s (q := (⟨"RightsHouse$Judge", "loadItem", "(IJ)I"⟩, 20)) (by decide +kernel))⟩, fun fr lo nl t q h => by
  have e : t_room.get 124 = some (2, (63, (4, (1, 27)))) := by decide +kernel
  rw [e] at h
  cases h
  exact Or.inl ⟨by decide, 3, _, rfl, by decide, rfl⟩⟩⟩⟩
theorem cl_5_196 : CallOk 20676 (123, (1, false)) := ⟨(show xM "RightsHouse$Judge" 196 Y_Ju_failBy 1 from ⟨k_6_11, k_1_5, k_6_14, by decide, by decide, by decide +kernel⟩), ⟨fun q => absurd q (by decide), fun _ => ⟨⟨k_6_13, (tb_s (q := (⟨"RightsHouse$Judge", "failBy", "(I)I"⟩, 20)) (by decide +kernel))⟩, fun fr lo nl t q h => by
  have e : t_room.get 123 = some (1, (40, (2, (1, 27)))) := by decide +kernel
  rw [e] at h
  cases h
  exact Or.inl ⟨by decide, 3, _, rfl, by decide, rfl⟩⟩⟩⟩
theorem cl_5_202 : CallOk 20682 (126, (1, true)) := ⟨(show xM "RightsHouse$Judge" 202 Y_Re_negated 1 from ⟨k_6_19, k_1_13, k_6_21, by decide, by decide, by decide +kernel⟩), ⟨fun _ => k_6_20, fun q => absurd q (by decide)⟩⟩
theorem cl_5_208 : CallOk 20688 (127, (3, false)) := ⟨(show xM "RightsHouse$Judge" 208 Y_Ju_calculateWholes 3 from ⟨k_6_22, k_1_5, k_6_25, by decide, by decide, by decide +kernel⟩), ⟨fun q => absurd q (by decide), fun _ => ⟨⟨k_6_24, (tb_s (q := (⟨"RightsHouse$Judge", "calculateWholes", "(IJJ)I"⟩, 20)) (by decide +kernel))⟩, fun fr lo nl t q h => by
  have e : t_room.get 127 = some (2, (63, (6, (1, 27)))) := by decide +kernel
  rw [e] at h
  cases h
  exact Or.inl ⟨by decide, 3, _, rfl, by decide, rfl⟩⟩⟩⟩
theorem cl_5_212 : CallOk 20692 (55, (1, true)) := ⟨(show xM "RightsHouse$Judge" 212 Y_Re_ofWhole 1 from ⟨k_6_26, k_1_13, k_4_114, by decide, by decide, by decide +kernel⟩), ⟨fun _ => k_4_113, fun q => absurd q (by decide)⟩⟩
theorem cl_5_215 : CallOk 20695 (128, (2, true)) := ⟨(show xM "RightsHouse$Judge" 215 Y_Re_plus 2 from ⟨k_6_27, k_1_13, k_6_29, by decide, by decide, by decide +kernel⟩), ⟨fun _ => k_6_28, fun q => absurd q (by decide)⟩⟩
theorem cl_5_219 : CallOk 20699 (129, (2, true)) := ⟨(show xM "RightsHouse$Judge" 219 Y_Re_times 2 from ⟨k_6_30, k_1_13, k_6_32, by decide, by decide, by decide +kernel⟩), ⟨fun _ => k_6_31, fun q => absurd q (by decide)⟩⟩
theorem cl_5_222 : CallOk 20702 (61, (2, true)) := ⟨(show xM "RightsHouse$Judge" 222 Y_Re_over 2 from ⟨k_6_35, k_1_13, k_4_123, by decide, by decide, by decide +kernel⟩), ⟨fun _ => k_4_122, fun q => absurd q (by decide)⟩⟩
theorem cl_5_225 : CallOk 20705 (130, (2, true)) := ⟨(show xM "RightsHouse$Judge" 225 Y_Re_rest 2 from ⟨k_6_36, k_1_13, k_6_38, by decide, by decide, by decide +kernel⟩), ⟨fun _ => k_6_37, fun q => absurd q (by decide)⟩⟩
theorem cl_5_228 : CallOk 20708 (133, (1, false)) := ⟨(show xM "RightsHouse$Judge" 228 Y_Ju_weighAmong 1 from ⟨k_6_43, k_1_5, k_6_46, by decide, by decide, by decide +kernel⟩), ⟨fun q => absurd q (by decide), fun _ => ⟨⟨k_6_45, (tb_s (q := (⟨"RightsHouse$Judge", "weighAmong", "(I)I"⟩, 20)) (by decide +kernel))⟩, fun fr lo nl t q h => by
  have e : t_room.get 133 = some (2, (64, (2, (1, 27)))) := by decide +kernel
  rw [e] at h
  cases h
  exact Or.inl ⟨by decide, 3, _, rfl, by decide, rfl⟩⟩⟩⟩
theorem cl_5_231 : CallOk 20711 (134, (2, true)) := ⟨(show xM "RightsHouse$Judge" 231 Y_JG_compare 2 from ⟨k_6_51, k_1_21, k_6_53, by decide, by decide, by decide +kernel⟩), ⟨fun _ => k_6_52, fun q => absurd q (by decide)⟩⟩
theorem cl_5_237 : CallOk 20717 (135, (2, true)) := ⟨(show xM "RightsHouse$Judge" 237 Y_Re_order 2 from ⟨k_6_54, k_1_13, k_6_56, by decide, by decide, by decide +kernel⟩), ⟨fun _ => k_6_55, fun q => absurd q (by decide)⟩⟩
theorem cl_5_240 : CallOk 20720 (136, (2, true)) := ⟨(show xM "RightsHouse$Judge" 240 Y_Ju_isSo 2 from ⟨k_6_58, k_1_5, k_6_60, by decide, by decide, by decide +kernel⟩), ⟨fun _ => k_6_59, fun q => absurd q (by decide)⟩⟩
theorem cl_5_243 : CallOk 20723 (132, (2, false)) := ⟨(show xM "RightsHouse$Judge" 243 Y_Wh_hasMark 2 from ⟨k_6_47, k_1_2, k_6_50, by decide, by decide, by decide +kernel⟩), ⟨fun q => absurd q (by decide), fun _ => ⟨⟨k_6_48, k_6_49⟩, fun fr lo nl t q h => by
  have e : t_room.get 132 = some (1, (40, (5, (2, 5)))) := by decide +kernel
  rw [e] at h
  cases h
  exact Or.inl ⟨by decide, 8, _, rfl, by decide, rfl⟩⟩⟩⟩
theorem cl_5_249 : CallOk 20729 (25, (1, false)) := ⟨(show xM "RightsHouse$Judge" 249 Y_Th_isThere 1 from ⟨k_6_89, k_1_3, k_3_217, by decide, by decide, by decide +kernel⟩), ⟨fun q => absurd q (by decide), fun _ => ⟨⟨k_3_215, k_3_216⟩, fun fr lo nl t q h => by
  have e : t_room.get 25 = some (1, (40, (2, (2, 10)))) := by decide +kernel
  rw [e] at h
  cases h
  exact Or.inl ⟨by decide, 7, _, rfl, by decide, rfl⟩⟩⟩⟩
theorem cl_5_255 : CallOk 20735 (21, (3, false)) := ⟨(show xM "RightsHouse$Judge" 255 Y_Wh_groupsOf 3 from ⟨k_6_98, k_1_2, k_3_198, by decide, by decide, by decide +kernel⟩), ⟨fun q => absurd q (by decide), fun _ => ⟨⟨k_3_196, k_3_197⟩, fun fr lo nl t q h => by
  have e : t_room.get 21 = some (4, (113, (6, (1, 5)))) := by decide +kernel
  rw [e] at h
  cases h
  exact Or.inl ⟨by decide, 8, _, rfl, by decide, rfl⟩⟩⟩⟩
theorem cl_5_258 : CallOk 20738 (114, (2, false)) := ⟨(show xM "RightsHouse$Judge" 258 Y_Ju_setPerson 2 from ⟨k_6_99, k_1_5, k_5_184, by decide, by decide, by decide +kernel⟩), ⟨fun q => absurd q (by decide), fun _ => ⟨⟨k_5_182, k_5_183⟩, fun fr lo nl t q h => by
  have e : t_room.get 114 = some (1, (40, (3, (0, 27)))) := by decide +kernel
  rw [e] at h
  cases h
  exact Or.inl ⟨by decide, 3, _, rfl, by decide, rfl⟩⟩⟩⟩
theorem cl_5_268 : CallOk 20748 (151, (4, false)) := ⟨(show xM "RightsHouse$Judge" 268 Y_Ju_noteDifference 4 from ⟨k_6_108, k_1_5, k_6_111, by decide, by decide, by decide +kernel⟩), ⟨fun q => absurd q (by decide), fun _ => ⟨⟨k_6_110, (tb_s (q := (⟨"RightsHouse$Judge", "noteDifference", "(IIII)V"⟩, 20)) (by decide +kernel))⟩, fun fr lo nl t q h => by
  have e : t_room.get 151 = some (1, (40, (5, (0, 27)))) := by decide +kernel
  rw [e] at h
  cases h
  exact Or.inl ⟨by decide, 3, _, rfl, by decide, rfl⟩⟩⟩⟩
theorem cl_6_39 : CallOk 24615 (197, (4, false)) := ⟨(show xM "RightsHouse$Lends" 39 Y_Le_hasRight 4 from ⟨k_7_58, k_1_8, k_7_61, by decide, by decide, by decide +kernel⟩), ⟨fun q => absurd q (by decide), fun _ => ⟨⟨k_7_59, k_7_60⟩, fun fr lo nl t q h => by
  have e : t_room.get 197 = some (3, (90, (5, (2, 52)))) := by decide +kernel
  rw [e] at h
  cases h
  exact Or.inl ⟨by decide, 4, _, rfl, by decide, rfl⟩⟩⟩⟩
theorem cl_6_48 : CallOk 24624 (196, (4, false)) := ⟨(show xM "RightsHouse$Lends" 48 Y_Le_lendGiving 4 from ⟨k_7_62, k_1_8, k_7_65, by decide, by decide, by decide +kernel⟩), ⟨fun q => absurd q (by decide), fun _ => ⟨⟨k_7_64, (tb_s (q := (⟨"RightsHouse$Lends", "lendGiving", "(IIII)I"⟩, 11)) (by decide +kernel))⟩, fun fr lo nl t q h => by
  have e : t_room.get 196 = some (2, (64, (7, (1, 52)))) := by decide +kernel
  rw [e] at h
  cases h
  exact Or.inl ⟨by decide, 4, _, rfl, by decide, rfl⟩⟩⟩⟩
theorem cl_6_52 : CallOk 24628 (50, (2, false)) := ⟨(show xM "RightsHouse$Lends" 52 Y_Th_actHolds 2 from ⟨k_7_66, k_1_3, k_4_80, by decide, by decide, by decide +kernel⟩), ⟨fun q => absurd q (by decide), fun _ => ⟨⟨k_4_78, k_4_79⟩, fun fr lo nl t q h => by
  have e : t_room.get 50 = some (1, (40, (3, (2, 10)))) := by decide +kernel
  rw [e] at h
  cases h
  exact Or.inl ⟨by decide, 7, _, rfl, by decide, rfl⟩⟩⟩⟩
theorem cl_6_56 : CallOk 24632 (45, (2, false)) := ⟨(show xM "RightsHouse$Lends" 56 Y_Th_isUnder 2 from ⟨k_7_67, k_1_3, k_4_61, by decide, by decide, by decide +kernel⟩), ⟨fun q => absurd q (by decide), fun _ => ⟨⟨k_4_59, k_4_60⟩, fun fr lo nl t q h => by
  have e : t_room.get 45 = some (1, (40, (5, (2, 10)))) := by decide +kernel
  rw [e] at h
  cases h
  exact Or.inl ⟨by decide, 7, _, rfl, by decide, rfl⟩⟩⟩⟩
theorem cl_6_69 : CallOk 24645 (212, (0, false)) := ⟨(show xM "RightsHouse$Lends" 69 Y_Le_goRound 0 from ⟨k_7_124, k_1_8, k_7_127, by decide, by decide, by decide +kernel⟩), ⟨fun q => absurd q (by decide), fun _ => ⟨⟨k_7_126, (tb_s (q := (⟨"RightsHouse$Lends", "goRound", "()V"⟩, 11)) (by decide +kernel))⟩, fun fr lo nl t q h => by
  have e : t_room.get 212 = some (2, (64, (4, (0, 52)))) := by decide +kernel
  rw [e] at h
  cases h
  exact Or.inl ⟨by decide, 4, _, rfl, by decide, rfl⟩⟩⟩⟩
theorem cl_6_72 : CallOk 24648 (211, (3, false)) := ⟨(show xM "RightsHouse$Lends" 72 Y_Le_pass 3 from ⟨k_7_128, k_1_8, k_7_131, by decide, by decide, by decide +kernel⟩), ⟨fun q => absurd q (by decide), fun _ => ⟨⟨k_7_130, (tb_s (q := (⟨"RightsHouse$Lends", "pass", "(III)V"⟩, 11)) (by decide +kernel))⟩, fun fr lo nl t q h => by
  have e : t_room.get 211 = some (1, (40, (5, (0, 52)))) := by decide +kernel
  rw [e] at h
  cases h
  exact Or.inl ⟨by decide, 4, _, rfl, by decide, rfl⟩⟩⟩⟩
theorem cl_6_76 : CallOk 24652 (213, (0, false)) := ⟨(show xM "RightsHouse$Lends" 76 Y_Le_countGains 0 from ⟨k_7_120, k_1_8, k_7_123, by decide, by decide, by decide +kernel⟩), ⟨fun q => absurd q (by decide), fun _ => ⟨⟨k_7_121, k_7_122⟩, fun fr lo nl t q h => by
  have e : t_room.get 213 = some (3, (87, (3, (1, 52)))) := by decide +kernel
  rw [e] at h
  cases h
  exact Or.inl ⟨by decide, 4, _, rfl, by decide, rfl⟩⟩⟩⟩
theorem cl_7_60 : CallOk 28732 (74, (0, false)) := ⟨(show xM "RightsHouse$Policies" 60 Y_Po_split 0 from ⟨k_4_90, k_1_4, k_4_93, by decide, by decide, by decide +kernel⟩), ⟨fun q => absurd q (by decide), fun _ => ⟨⟨k_4_92, (tb_s (q := (⟨"RightsHouse$Policies", "split", "()V"⟩, 17)) (by decide +kernel))⟩, fun fr lo nl t q h => by
  have e : t_room.get 74 = some (22, (647, (3, (0, 17)))) := by decide +kernel
  rw [e] at h
  cases h
  exact Or.inl ⟨by decide, 5, _, rfl, by decide, rfl⟩⟩⟩⟩
theorem cl_7_72 : CallOk 28744 (75, (2, true)) := ⟨(show xM "RightsHouse$Policies" 72 Y_Po_ruleAt 2 from ⟨k_4_238, k_1_4, k_5_0, by decide, by decide, by decide +kernel⟩), ⟨fun _ => k_4_239, fun q => absurd q (by decide)⟩⟩
theorem cl_7_76 : CallOk 28748 (103, (1, false)) := ⟨(show xM "RightsHouse$Policies" 76 Y_Po_readRule 1 from ⟨k_5_1, k_1_4, k_5_4, by decide, by decide, by decide +kernel⟩), ⟨fun q => absurd q (by decide), fun _ => ⟨⟨k_5_3, (tb_s (q := (⟨"RightsHouse$Policies", "readRule", "(I)Z"⟩, 17)) (by decide +kernel))⟩, fun fr lo nl t q h => by
  have e : t_room.get 103 = some (601, (20023, (2, (2, 17)))) := by decide +kernel
  rw [e] at h
  cases h
  exact Or.inl ⟨by decide, 5, _, rfl, by decide, rfl⟩⟩⟩⟩
theorem cl_7_83 : CallOk 28755 (90, (1, false)) := ⟨(show xM "RightsHouse$Policies" 83 Y_Po_passes 1 from ⟨k_5_103, k_1_4, k_5_106, by decide, by decide, by decide +kernel⟩), ⟨fun q => absurd q (by decide), fun _ => ⟨⟨k_5_105, (tb_s (q := (⟨"RightsHouse$Policies", "passes", "(I)Z"⟩, 17)) (by decide +kernel))⟩, fun fr lo nl t q h => by
  have e : t_room.get 90 = some (2, (61, (2, (2, 17)))) := by decide +kernel
  rw [e] at h
  cases h
  exact Or.inl ⟨by decide, 5, _, rfl, by decide, rfl⟩⟩⟩⟩
theorem cl_7_89 : CallOk 28761 (73, (1, false)) := ⟨(show xM "RightsHouse$Policies" 89 Y_Po_splitOff 1 from ⟨k_4_94, k_1_4, k_4_97, by decide, by decide, by decide +kernel⟩), ⟨fun q => absurd q (by decide), fun _ => ⟨⟨k_4_96, (tb_s (q := (⟨"RightsHouse$Policies", "splitOff", "(I)I"⟩, 17)) (by decide +kernel))⟩, fun fr lo nl t q h => by
  have e : t_room.get 73 = some (21, (624, (4, (1, 17)))) := by decide +kernel
  rw [e] at h
  cases h
  exact Or.inl ⟨by decide, 5, _, rfl, by decide, rfl⟩⟩⟩⟩
theorem cl_7_93 : CallOk 28765 (53, (3, false)) := ⟨(show xM "RightsHouse$Policies" 93 Y_Po_addToken 3 from ⟨k_4_108, k_1_4, k_4_111, by decide, by decide, by decide +kernel⟩), ⟨fun q => absurd q (by decide), fun _ => ⟨⟨k_4_110, (tb_s (q := (⟨"RightsHouse$Policies", "addToken", "(IIJ)V"⟩, 17)) (by decide +kernel))⟩, fun fr lo nl t q h => by
  have e : t_room.get 53 = some (1, (40, (5, (0, 17)))) := by decide +kernel
  rw [e] at h
  cases h
  exact Or.inl ⟨by decide, 5, _, rfl, by decide, rfl⟩⟩⟩⟩
theorem cl_7_97 : CallOk 28769 (52, (1, false)) := ⟨(show xM "RightsHouse$Policies" 97 Y_Po_isFigure 1 from ⟨k_4_98, k_1_4, k_4_101, by decide, by decide, by decide +kernel⟩), ⟨fun q => absurd q (by decide), fun _ => ⟨⟨k_4_100, (tb_s (q := (⟨"RightsHouse$Policies", "isFigure", "(I)Z"⟩, 17)) (by decide +kernel))⟩, fun fr lo nl t q h => by
  have e : t_room.get 52 = some (1, (40, (2, (2, 17)))) := by decide +kernel
  rw [e] at h
  cases h
  exact Or.inl ⟨by decide, 5, _, rfl, by decide, rfl⟩⟩⟩⟩
theorem cl_7_100 : CallOk 28772 (62, (1, false)) := ⟨(show xM "RightsHouse$Policies" 100 Y_Po_splitNumber 1 from ⟨k_4_102, k_1_4, k_4_105, by decide, by decide, by decide +kernel⟩), ⟨fun q => absurd q (by decide), fun _ => ⟨⟨k_4_104, (tb_s (q := (⟨"RightsHouse$Policies", "splitNumber", "(I)I"⟩, 17)) (by decide +kernel))⟩, fun fr lo nl t q h => by
  have e : t_room.get 62 = some (3, (109, (10, (1, 17)))) := by decide +kernel
  rw [e] at h
  cases h
  exact Or.inl ⟨by decide, 5, _, rfl, by decide, rfl⟩⟩⟩⟩
theorem cl_7_103 : CallOk 28775 (63, (1, false)) := ⟨(show xM "RightsHouse$Policies" 103 Y_Po_isLetter 1 from ⟨k_4_143, k_1_4, k_4_146, by decide, by decide, by decide +kernel⟩), ⟨fun q => absurd q (by decide), fun _ => ⟨⟨k_4_145, (tb_s (q := (⟨"RightsHouse$Policies", "isLetter", "(I)Z"⟩, 17)) (by decide +kernel))⟩, fun fr lo nl t q h => by
  have e : t_room.get 63 = some (1, (40, (2, (2, 17)))) := by decide +kernel
  rw [e] at h
  cases h
  exact Or.inl ⟨by decide, 5, _, rfl, by decide, rfl⟩⟩⟩⟩
theorem cl_7_106 : CallOk 28778 (72, (1, false)) := ⟨(show xM "RightsHouse$Policies" 106 Y_Po_splitSign 1 from ⟨k_4_147, k_1_4, k_4_150, by decide, by decide, by decide +kernel⟩), ⟨fun q => absurd q (by decide), fun _ => ⟨⟨k_4_149, (tb_s (q := (⟨"RightsHouse$Policies", "splitSign", "(I)I"⟩, 17)) (by decide +kernel))⟩, fun fr lo nl t q h => by
  have e : t_room.get 72 = some (20, (600, (5, (1, 17)))) := by decide +kernel
  rw [e] at h
  cases h
  exact Or.inl ⟨by decide, 5, _, rfl, by decide, rfl⟩⟩⟩⟩
theorem cl_7_111 : CallOk 28783 (71, (1, false)) := ⟨(show xM "RightsHouse$Policies" 111 Y_JS_indexOf_0 1 from ⟨k_4_152, k_1_15, k_4_155, by decide, by decide, by decide +kernel⟩), ⟨fun q => absurd q (by decide), fun _ => ⟨⟨k_4_153, k_4_154⟩, fun fr lo nl t q h => by
  have e : t_room.get 71 = some (4, (110, (2, (1, 1000)))) := by decide +kernel
  rw [e] at h
  cases h
  exact Or.inr ⟨rfl, rfl⟩⟩⟩⟩
theorem cl_7_120 : CallOk 28792 (55, (1, true)) := ⟨(show xM "RightsHouse$Policies" 120 Y_Re_ofWhole 1 from ⟨k_4_112, k_1_13, k_4_114, by decide, by decide, by decide +kernel⟩), ⟨fun _ => k_4_113, fun q => absurd q (by decide)⟩⟩
theorem cl_7_126 : CallOk 28798 (61, (2, true)) := ⟨(show xM "RightsHouse$Policies" 126 Y_Re_over 2 from ⟨k_4_121, k_1_13, k_4_123, by decide, by decide, by decide +kernel⟩), ⟨fun _ => k_4_122, fun q => absurd q (by decide)⟩⟩
theorem cl_7_130 : CallOk 28802 (66, (0, false)) := ⟨(show xM "RightsHouse$Policies" 130 Y_JS_length 0 from ⟨k_5_14, k_1_15, k_4_169, by decide, by decide, by decide +kernel⟩), ⟨fun q => absurd q (by decide), fun _ => ⟨⟨k_4_167, k_4_168⟩, fun fr lo nl t q h => by
  have e : t_room.get 66 = some (2, (60, (1, (1, 1000)))) := by decide +kernel
  rw [e] at h
  cases h
  exact Or.inr ⟨rfl, rfl⟩⟩⟩⟩
theorem cl_7_133 : CallOk 28805 (78, (1, false)) := ⟨(show xM "RightsHouse$Policies" 133 Y_JS_charAt 1 from ⟨k_5_15, k_1_15, k_5_18, by decide, by decide, by decide +kernel⟩), ⟨fun q => absurd q (by decide), fun _ => ⟨⟨k_5_16, k_5_17⟩, fun fr lo nl t q h => by
  have e : t_room.get 78 = some (4, (104, (2, (4, 1000)))) := by decide +kernel
  rw [e] at h
  cases h
  exact Or.inr ⟨rfl, rfl⟩⟩⟩⟩
theorem cl_7_137 : CallOk 28809 (86, (1, false)) := ⟨(show xM "RightsHouse$Policies" 137 Y_Po_isSign 1 from ⟨k_5_69, k_1_4, k_5_72, by decide, by decide, by decide +kernel⟩), ⟨fun q => absurd q (by decide), fun _ => ⟨⟨k_5_71, (tb_s (q := (⟨"RightsHouse$Policies", "isSign", "(I)Z"⟩, 17)) (by decide +kernel))⟩, fun fr lo nl t q h => by
  have e : t_room.get 86 = some (1, (40, (2, (2, 17)))) := by decide +kernel
  rw [e] at h
  cases h
  exact Or.inl ⟨by decide, 5, _, rfl, by decide, rfl⟩⟩⟩⟩
theorem cl_7_140 : CallOk 28812 (80, (0, false)) := ⟨(show xM "RightsHouse$Policies" 140 Y_Po_fail 0 from ⟨k_5_37, k_1_4, k_5_40, by decide, by decide, by decide +kernel⟩), ⟨fun q => absurd q (by decide), fun _ => ⟨⟨k_5_39, (tb_s (q := (⟨"RightsHouse$Policies", "fail", "()Z"⟩, 17)) (by decide +kernel))⟩, fun fr lo nl t q h => by
  have e : t_room.get 80 = some (1, (40, (1, (2, 17)))) := by decide +kernel
  rw [e] at h
  cases h
  exact Or.inl ⟨by decide, 5, _, rfl, by decide, rfl⟩⟩⟩⟩
theorem cl_7_144 : CallOk 28816 (81, (1, false)) := ⟨(show xM "RightsHouse$Policies" 144 Y_Po_readEffect 1 from ⟨k_5_5, k_1_4, k_5_8, by decide, by decide, by decide +kernel⟩), ⟨fun q => absurd q (by decide), fun _ => ⟨⟨k_5_7, (tb_s (q := (⟨"RightsHouse$Policies", "readEffect", "(I)Z"⟩, 17)) (by decide +kernel))⟩, fun fr lo nl t q h => by
  have e : t_room.get 81 = some (21, (622, (2, (2, 17)))) := by decide +kernel
  rw [e] at h
  cases h
  exact Or.inl ⟨by decide, 5, _, rfl, by decide, rfl⟩⟩⟩⟩
theorem cl_7_147 : CallOk 28819 (83, (1, false)) := ⟨(show xM "RightsHouse$Policies" 147 Y_Po_readWho 1 from ⟨k_5_41, k_1_4, k_5_44, by decide, by decide, by decide +kernel⟩), ⟨fun q => absurd q (by decide), fun _ => ⟨⟨k_5_43, (tb_s (q := (⟨"RightsHouse$Policies", "readWho", "(I)Z"⟩, 17)) (by decide +kernel))⟩, fun fr lo nl t q h => by
  have e : t_room.get 83 = some (21, (622, (4, (2, 17)))) := by decide +kernel
  rw [e] at h
  cases h
  exact Or.inl ⟨by decide, 5, _, rfl, by decide, rfl⟩⟩⟩⟩
theorem cl_7_150 : CallOk 28822 (85, (1, false)) := ⟨(show xM "RightsHouse$Policies" 150 Y_Po_readAct 1 from ⟨k_5_54, k_1_4, k_5_57, by decide, by decide, by decide +kernel⟩), ⟨fun q => absurd q (by decide), fun _ => ⟨⟨k_5_56, (tb_s (q := (⟨"RightsHouse$Policies", "readAct", "(I)Z"⟩, 17)) (by decide +kernel))⟩, fun fr lo nl t q h => by
  have e : t_room.get 85 = some (21, (622, (3, (2, 17)))) := by decide +kernel
  rw [e] at h
  cases h
  exact Or.inl ⟨by decide, 5, _, rfl, by decide, rfl⟩⟩⟩⟩
theorem cl_7_153 : CallOk 28825 (87, (1, false)) := ⟨(show xM "RightsHouse$Policies" 153 Y_Po_readThing 1 from ⟨k_5_64, k_1_4, k_5_67, by decide, by decide, by decide +kernel⟩), ⟨fun q => absurd q (by decide), fun _ => ⟨⟨k_5_66, (tb_s (q := (⟨"RightsHouse$Policies", "readThing", "(I)Z"⟩, 17)) (by decide +kernel))⟩, fun fr lo nl t q h => by
  have e : t_room.get 87 = some (21, (622, (3, (2, 17)))) := by decide +kernel
  rw [e] at h
  cases h
  exact Or.inl ⟨by decide, 5, _, rfl, by decide, rfl⟩⟩⟩⟩
theorem cl_7_158 : CallOk 28830 (79, (1, false)) := ⟨(show xM "RightsHouse$Policies" 158 Y_Po_isWord 1 from ⟨k_5_10, k_1_4, k_5_13, by decide, by decide, by decide +kernel⟩), ⟨fun q => absurd q (by decide), fun _ => ⟨⟨k_5_12, (tb_s (q := (⟨"RightsHouse$Policies", "isWord", "(Ljava/lang/String;)Z"⟩, 17)) (by decide +kernel))⟩, fun fr lo nl t q h => by
  have e : t_room.get 79 = some (20, (600, (3, (2, 17)))) := by decide +kernel
  rw [e] at h
  cases h
  exact Or.inl ⟨by decide, 5, _, rfl, by decide, rfl⟩⟩⟩⟩
theorem cl_7_162 : CallOk 28834 (102, (1, false)) := ⟨(show xM "RightsHouse$Policies" 162 Y_Po_readCondition 1 from ⟨k_5_74, k_1_4, k_5_77, by decide, by decide, by decide +kernel⟩), ⟨fun q => absurd q (by decide), fun _ => ⟨⟨k_5_76, (tb_s (q := (⟨"RightsHouse$Policies", "readCondition", "(I)Z"⟩, 17)) (by decide +kernel))⟩, fun fr lo nl t q h => by
  have e : t_room.get 102 = some (200, (4000, (4, (2, 17)))) := by decide +kernel
  rw [e] at h
  cases h
  exact Or.inl ⟨by decide, 5, _, rfl, by decide, rfl⟩⟩⟩⟩
theorem cl_7_175 : CallOk 28847 (82, (1, false)) := ⟨(show xM "RightsHouse$Policies" 175 Y_Po_numberBehind 1 from ⟨k_5_45, k_1_4, k_5_48, by decide, by decide, by decide +kernel⟩), ⟨fun q => absurd q (by decide), fun _ => ⟨⟨k_5_47, (tb_s (q := (⟨"RightsHouse$Policies", "numberBehind", "(I)I"⟩, 17)) (by decide +kernel))⟩, fun fr lo nl t q h => by
  have e : t_room.get 82 = some (2, (61, (6, (1, 17)))) := by decide +kernel
  rw [e] at h
  cases h
  exact Or.inl ⟨by decide, 5, _, rfl, by decide, rfl⟩⟩⟩⟩
theorem cl_7_187 : CallOk 28859 (9, (1, false)) := ⟨(show xM "RightsHouse$Policies" 187 Y_Wh_isPerson 1 from ⟨k_5_52, k_1_2, k_3_145, by decide, by decide, by decide +kernel⟩), ⟨fun q => absurd q (by decide), fun _ => ⟨⟨k_3_143, k_3_144⟩, fun fr lo nl t q h => by
  have e : t_room.get 9 = some (1, (40, (2, (2, 5)))) := by decide +kernel
  rw [e] at h
  cases h
  exact Or.inl ⟨by decide, 8, _, rfl, by decide, rfl⟩⟩⟩⟩
theorem cl_7_192 : CallOk 28864 (10, (1, false)) := ⟨(show xM "RightsHouse$Policies" 192 Y_Wh_isGroup 1 from ⟨k_5_53, k_1_2, k_3_149, by decide, by decide, by decide +kernel⟩), ⟨fun q => absurd q (by decide), fun _ => ⟨⟨k_3_147, k_3_148⟩, fun fr lo nl t q h => by
  have e : t_room.get 10 = some (1, (40, (2, (2, 5)))) := by decide +kernel
  rw [e] at h
  cases h
  exact Or.inl ⟨by decide, 8, _, rfl, by decide, rfl⟩⟩⟩⟩
theorem cl_7_199 : CallOk 28871 (84, (0, false)) := ⟨(show xM "RightsHouse$Policies" 199 Y_Po_oneLetter 0 from ⟨k_5_60, k_1_4, k_5_63, by decide, by decide, by decide +kernel⟩), ⟨fun q => absurd q (by decide), fun _ => ⟨⟨k_5_62, (tb_s (q := (⟨"RightsHouse$Policies", "oneLetter", "()C"⟩, 17)) (by decide +kernel))⟩, fun fr lo nl t q h => by
  have e : t_room.get 84 = some (1, (40, (2, (4, 17)))) := by decide +kernel
  rw [e] at h
  cases h
  exact Or.inl ⟨by decide, 5, _, rfl, by decide, rfl⟩⟩⟩⟩
theorem cl_7_203 : CallOk 28875 (25, (1, false)) := ⟨(show xM "RightsHouse$Policies" 203 Y_Th_isThere 1 from ⟨k_5_68, k_1_3, k_3_217, by decide, by decide, by decide +kernel⟩), ⟨fun q => absurd q (by decide), fun _ => ⟨⟨k_3_215, k_3_216⟩, fun fr lo nl t q h => by
  have e : t_room.get 25 = some (1, (40, (2, (2, 10)))) := by decide +kernel
  rw [e] at h
  cases h
  exact Or.inl ⟨by decide, 7, _, rfl, by decide, rfl⟩⟩⟩⟩
theorem cl_7_206 : CallOk 28878 (101, (1, false)) := ⟨(show xM "RightsHouse$Policies" 206 Y_Po_readPart 1 from ⟨k_5_78, k_1_4, k_5_81, by decide, by decide, by decide +kernel⟩), ⟨fun q => absurd q (by decide), fun _ => ⟨⟨k_5_80, (tb_s (q := (⟨"RightsHouse$Policies", "readPart", "(I)Z"⟩, 17)) (by decide +kernel))⟩, fun fr lo nl t q h => by
  have e : t_room.get 101 = some (200, (4000, (4, (2, 17)))) := by decide +kernel
  rw [e] at h
  cases h
  exact Or.inl ⟨by decide, 5, _, rfl, by decide, rfl⟩⟩⟩⟩
theorem cl_7_211 : CallOk 28883 (88, (2, false)) := ⟨(show xM "RightsHouse$Policies" 211 Y_Po_emit 2 from ⟨k_5_87, k_1_4, k_5_90, by decide, by decide, by decide +kernel⟩), ⟨fun q => absurd q (by decide), fun _ => ⟨⟨k_5_89, (tb_s (q := (⟨"RightsHouse$Policies", "emit", "(IJ)V"⟩, 17)) (by decide +kernel))⟩, fun fr lo nl t q h => by
  have e : t_room.get 88 = some (1, (40, (4, (0, 17)))) := by decide +kernel
  rw [e] at h
  cases h
  exact Or.inl ⟨by decide, 5, _, rfl, by decide, rfl⟩⟩⟩⟩
theorem cl_7_215 : CallOk 28887 (98, (1, false)) := ⟨(show xM "RightsHouse$Policies" 215 Y_Po_aimHere 1 from ⟨k_5_140, k_1_4, k_5_143, by decide, by decide, by decide +kernel⟩), ⟨fun q => absurd q (by decide), fun _ => ⟨⟨k_5_142, (tb_s (q := (⟨"RightsHouse$Policies", "aimHere", "(I)V"⟩, 17)) (by decide +kernel))⟩, fun fr lo nl t q h => by
  have e : t_room.get 98 = some (1, (40, (2, (0, 17)))) := by decide +kernel
  rw [e] at h
  cases h
  exact Or.inl ⟨by decide, 5, _, rfl, by decide, rfl⟩⟩⟩⟩
theorem cl_7_219 : CallOk 28891 (100, (1, false)) := ⟨(show xM "RightsHouse$Policies" 219 Y_Po_readSuch 1 from ⟨k_5_82, k_1_4, k_5_85, by decide, by decide, by decide +kernel⟩), ⟨fun q => absurd q (by decide), fun _ => ⟨⟨k_5_84, (tb_s (q := (⟨"RightsHouse$Policies", "readSuch", "(I)Z"⟩, 17)) (by decide +kernel))⟩, fun fr lo nl t q h => by
  have e : t_room.get 100 = some (200, (4000, (2, (2, 17)))) := by decide +kernel
  rw [e] at h
  cases h
  exact Or.inl ⟨by decide, 5, _, rfl, by decide, rfl⟩⟩⟩⟩
theorem cl_7_228 : CallOk 28900 (89, (1, false)) := ⟨(show xM "RightsHouse$Policies" 228 Y_Po_readFeature 1 from ⟨k_5_92, k_1_4, k_5_95, by decide, by decide, by decide +kernel⟩), ⟨fun q => absurd q (by decide), fun _ => ⟨⟨k_5_94, (tb_s (q := (⟨"RightsHouse$Policies", "readFeature", "(I)Z"⟩, 17)) (by decide +kernel))⟩, fun fr lo nl t q h => by
  have e : t_room.get 89 = some (21, (622, (4, (2, 17)))) := by decide +kernel
  rw [e] at h
  cases h
  exact Or.inl ⟨by decide, 5, _, rfl, by decide, rfl⟩⟩⟩⟩
theorem cl_7_231 : CallOk 28903 (99, (1, false)) := ⟨(show xM "RightsHouse$Policies" 231 Y_Po_readBothWays 1 from ⟨k_5_99, k_1_4, k_5_102, by decide, by decide, by decide +kernel⟩), ⟨fun q => absurd q (by decide), fun _ => ⟨⟨k_5_101, (tb_s (q := (⟨"RightsHouse$Policies", "readBothWays", "(I)Z"⟩, 17)) (by decide +kernel))⟩, fun fr lo nl t q h => by
  have e : t_room.get 99 = some (200, (4000, (5, (2, 17)))) := by decide +kernel
  rw [e] at h
  cases h
  exact Or.inl ⟨by decide, 5, _, rfl, by decide, rfl⟩⟩⟩⟩
theorem cl_7_234 : CallOk 28906 (97, (1, false)) := ⟨(show xM "RightsHouse$Policies" 234 Y_Po_readComparisonR 1 from ⟨k_5_107, k_1_4, k_5_110, by decide, by decide, by decide +kernel⟩), ⟨fun q => absurd q (by decide), fun _ => ⟨⟨k_5_109, (tb_s (q := (⟨"RightsHouse$Policies", "readComparison", "(I)Z"⟩, 17)) (by decide +kernel))⟩, fun fr lo nl t q h => by
  have e : t_room.get 97 = some (200, (4000, (3, (2, 17)))) := by decide +kernel
  rw [e] at h
  cases h
  exact Or.inl ⟨by decide, 5, _, rfl, by decide, rfl⟩⟩⟩⟩
theorem cl_7_237 : CallOk 28909 (95, (1, false)) := ⟨(show xM "RightsHouse$Policies" 237 Y_Po_readSum 1 from ⟨k_5_111, k_1_4, k_5_114, by decide, by decide, by decide +kernel⟩), ⟨fun q => absurd q (by decide), fun _ => ⟨⟨k_5_113, (tb_s (q := (⟨"RightsHouse$Policies", "readSum", "(I)Z"⟩, 17)) (by decide +kernel))⟩, fun fr lo nl t q h => by
  have e : t_room.get 95 = some (200, (4000, (4, (2, 17)))) := by decide +kernel
  rw [e] at h
  cases h
  exact Or.inl ⟨by decide, 5, _, rfl, by decide, rfl⟩⟩⟩⟩
theorem cl_7_242 : CallOk 28914 (96, (0, false)) := ⟨(show xM "RightsHouse$Policies" 242 Y_Po_comparisonHere 0 from ⟨k_5_135, k_1_4, k_5_138, by decide, by decide, by decide +kernel⟩), ⟨fun q => absurd q (by decide), fun _ => ⟨⟨k_5_137, (tb_s (q := (⟨"RightsHouse$Policies", "comparisonHere", "()I"⟩, 17)) (by decide +kernel))⟩, fun fr lo nl t q h => by
  have e : t_room.get 96 = some (1, (40, (1, (1, 17)))) := by decide +kernel
  rw [e] at h
  cases h
  exact Or.inl ⟨by decide, 5, _, rfl, by decide, rfl⟩⟩⟩⟩
theorem cl_7_245 : CallOk 28917 (94, (1, false)) := ⟨(show xM "RightsHouse$Policies" 245 Y_Po_readProduct 1 from ⟨k_5_115, k_1_4, k_5_118, by decide, by decide, by decide +kernel⟩), ⟨fun q => absurd q (by decide), fun _ => ⟨⟨k_5_117, (tb_s (q := (⟨"RightsHouse$Policies", "readProduct", "(I)Z"⟩, 17)) (by decide +kernel))⟩, fun fr lo nl t q h => by
  have e : t_room.get 94 = some (200, (4000, (4, (2, 17)))) := by decide +kernel
  rw [e] at h
  cases h
  exact Or.inl ⟨by decide, 5, _, rfl, by decide, rfl⟩⟩⟩⟩
theorem cl_7_248 : CallOk 28920 (93, (1, false)) := ⟨(show xM "RightsHouse$Policies" 248 Y_Po_readTerm 1 from ⟨k_5_119, k_1_4, k_5_122, by decide, by decide, by decide +kernel⟩), ⟨fun q => absurd q (by decide), fun _ => ⟨⟨k_5_121, (tb_s (q := (⟨"RightsHouse$Policies", "readTerm", "(I)Z"⟩, 17)) (by decide +kernel))⟩, fun fr lo nl t q h => by
  have e : t_room.get 93 = some (200, (4000, (2, (2, 17)))) := by decide +kernel
  rw [e] at h
  cases h
  exact Or.inl ⟨by decide, 5, _, rfl, by decide, rfl⟩⟩⟩⟩
theorem cl_7_251 : CallOk 28923 (92, (1, false)) := ⟨(show xM "RightsHouse$Policies" 251 Y_Po_readNested 1 from ⟨k_5_123, k_1_4, k_5_126, by decide, by decide, by decide +kernel⟩), ⟨fun q => absurd q (by decide), fun _ => ⟨⟨k_5_125, (tb_s (q := (⟨"RightsHouse$Policies", "readNested", "(I)Z"⟩, 17)) (by decide +kernel))⟩, fun fr lo nl t q h => by
  have e : t_room.get 92 = some (200, (4000, (3, (2, 17)))) := by decide +kernel
  rw [e] at h
  cases h
  exact Or.inl ⟨by decide, 5, _, rfl, by decide, rfl⟩⟩⟩⟩
theorem cl_7_260 : CallOk 28932 (91, (1, false)) := ⟨(show xM "RightsHouse$Policies" 260 Y_Po_readItem 1 from ⟨k_5_130, k_1_4, k_5_133, by decide, by decide, by decide +kernel⟩), ⟨fun q => absurd q (by decide), fun _ => ⟨⟨k_5_132, (tb_s (q := (⟨"RightsHouse$Policies", "readItem", "(I)Z"⟩, 17)) (by decide +kernel))⟩, fun fr lo nl t q h => by
  have e : t_room.get 91 = some (200, (4000, (5, (2, 17)))) := by decide +kernel
  rw [e] at h
  cases h
  exact Or.inl ⟨by decide, 5, _, rfl, by decide, rfl⟩⟩⟩⟩
theorem cl_8_13 : CallOk 32781 (30, (1, true)) := ⟨(show xM "RightsHouse$Reals" 13 Y_Re_isNoNumber 1 from ⟨k_4_124, k_1_13, k_3_235, by decide, by decide, by decide +kernel⟩), ⟨fun _ => k_3_234, fun q => absurd q (by decide)⟩⟩
theorem cl_8_31 : CallOk 32799 (54, (3, true)) := ⟨(show xM "RightsHouse$Reals" 31 Y_Re_packed 3 from ⟨k_4_117, k_1_13, k_4_119, by decide, by decide, by decide +kernel⟩), ⟨fun _ => k_4_118, fun q => absurd q (by decide)⟩⟩
theorem cl_8_35 : CallOk 32803 (56, (1, true)) := ⟨(show xM "RightsHouse$Reals" 35 Y_Re_isEndless 1 from ⟨k_4_125, k_1_13, k_4_127, by decide, by decide, by decide +kernel⟩), ⟨fun _ => k_4_126, fun q => absurd q (by decide)⟩⟩
theorem cl_8_38 : CallOk 32806 (60, (1, true)) := ⟨(show xM "RightsHouse$Reals" 38 Y_Re_exponent 1 from ⟨k_4_140, k_1_13, k_4_142, by decide, by decide, by decide +kernel⟩), ⟨fun _ => k_4_141, fun q => absurd q (by decide)⟩⟩
theorem cl_8_42 : CallOk 32810 (58, (1, true)) := ⟨(show xM "RightsHouse$Reals" 42 Y_Re_mantissa 1 from ⟨k_4_132, k_1_13, k_4_134, by decide, by decide, by decide +kernel⟩), ⟨fun _ => k_4_133, fun q => absurd q (by decide)⟩⟩
theorem cl_8_46 : CallOk 32814 (57, (1, true)) := ⟨(show xM "RightsHouse$Reals" 46 Y_Re_isZero 1 from ⟨k_4_128, k_1_13, k_4_130, by decide, by decide, by decide +kernel⟩), ⟨fun _ => k_4_129, fun q => absurd q (by decide)⟩⟩
theorem cl_8_49 : CallOk 32817 (59, (1, true)) := ⟨(show xM "RightsHouse$Reals" 49 Y_Re_shortage 1 from ⟨k_4_137, k_1_13, k_4_139, by decide, by decide, by decide +kernel⟩), ⟨fun _ => k_4_138, fun q => absurd q (by decide)⟩⟩
theorem cl_8_56 : CallOk 32824 (134, (2, true)) := ⟨(show xM "RightsHouse$Reals" 56 Y_JG_compare 2 from ⟨k_6_57, k_1_21, k_6_53, by decide, by decide, by decide +kernel⟩), ⟨fun _ => k_6_52, fun q => absurd q (by decide)⟩⟩
theorem cl_9_46 : CallOk 36910 (21, (3, false)) := ⟨(show xM "RightsHouse$Roles" 46 Y_Wh_groupsOf 3 from ⟨k_6_144, k_1_2, k_3_198, by decide, by decide, by decide +kernel⟩), ⟨fun q => absurd q (by decide), fun _ => ⟨⟨k_3_196, k_3_197⟩, fun fr lo nl t q h => by
  have e : t_room.get 21 = some (4, (113, (6, (1, 5)))) := by decide +kernel
  rw [e] at h
  cases h
  exact Or.inl ⟨by decide, 8, _, rfl, by decide, rfl⟩⟩⟩⟩
theorem cl_9_50 : CallOk 36914 (159, (3, false)) := ⟨(show xM "RightsHouse$Roles" 50 Y_Ro_refusingGiver 3 from ⟨k_6_140, k_1_6, k_6_143, by decide, by decide, by decide +kernel⟩), ⟨fun q => absurd q (by decide), fun _ => ⟨⟨k_6_141, k_6_142⟩, fun fr lo nl t q h => by
  have e : t_room.get 159 = some (5, (138, (7, (1, 34)))) := by decide +kernel
  rw [e] at h
  cases h
  exact Or.inl ⟨by decide, 6, _, rfl, by decide, rfl⟩⟩⟩⟩
theorem cl_9_53 : CallOk 36917 (17, (5, false)) := ⟨(show xM "RightsHouse$Roles" 53 Y_Wh_addRow 5 from ⟨k_6_145, k_1_2, k_3_177, by decide, by decide, by decide +kernel⟩), ⟨fun q => absurd q (by decide), fun _ => ⟨⟨k_3_175, k_3_176⟩, fun fr lo nl t q h => by
  have e : t_room.get 17 = some (1, (40, (7, (1, 5)))) := by decide +kernel
  rw [e] at h
  cases h
  exact Or.inl ⟨by decide, 8, _, rfl, by decide, rfl⟩⟩⟩⟩
theorem cl_9_57 : CallOk 36921 (162, (3, false)) := ⟨(show xM "RightsHouse$Roles" 57 Y_Ro_firstNotHolding 3 from ⟨k_6_146, k_1_6, k_6_149, by decide, by decide, by decide +kernel⟩), ⟨fun q => absurd q (by decide), fun _ => ⟨⟨k_6_147, k_6_148⟩, fun fr lo nl t q h => by
  have e : t_room.get 162 = some (5, (138, (5, (1, 34)))) := by decide +kernel
  rw [e] at h
  cases h
  exact Or.inl ⟨by decide, 6, _, rfl, by decide, rfl⟩⟩⟩⟩
theorem cl_9_66 : CallOk 36930 (161, (1, false)) := ⟨(show xM "RightsHouse$Roles" 66 Y_Ro_doesLawHold 1 from ⟨k_6_150, k_1_6, k_6_153, by decide, by decide, by decide +kernel⟩), ⟨fun q => absurd q (by decide), fun _ => ⟨⟨k_6_152, (tb_s (q := (⟨"RightsHouse$Roles", "doesLawHold", "(I)Z"⟩, 10)) (by decide +kernel))⟩, fun fr lo nl t q h => by
  have e : t_room.get 161 = some (2, (63, (6, (2, 34)))) := by decide +kernel
  rw [e] at h
  cases h
  exact Or.inl ⟨by decide, 6, _, rfl, by decide, rfl⟩⟩⟩⟩
theorem cl_9_70 : CallOk 36934 (160, (2, false)) := ⟨(show xM "RightsHouse$Roles" 70 Y_Ro_isBothOn 2 from ⟨k_6_154, k_1_6, k_6_157, by decide, by decide, by decide +kernel⟩), ⟨fun q => absurd q (by decide), fun _ => ⟨⟨k_6_156, (tb_s (q := (⟨"RightsHouse$Roles", "isBothOn", "(II)Z"⟩, 10)) (by decide +kernel))⟩, fun fr lo nl t q h => by
  have e : t_room.get 160 = some (1, (40, (4, (2, 34)))) := by decide +kernel
  rw [e] at h
  cases h
  exact Or.inl ⟨by decide, 6, _, rfl, by decide, rfl⟩⟩⟩⟩
theorem cl_9_74 : CallOk 36938 (15, (3, false)) := ⟨(show xM "RightsHouse$Roles" 74 Y_Wh_reachedFrom 3 from ⟨k_6_205, k_1_2, k_3_161, by decide, by decide, by decide +kernel⟩), ⟨fun q => absurd q (by decide), fun _ => ⟨⟨k_3_159, k_3_160⟩, fun fr lo nl t q h => by
  have e : t_room.get 15 = some (3, (86, (8, (1, 5)))) := by decide +kernel
  rw [e] at h
  cases h
  exact Or.inl ⟨by decide, 8, _, rfl, by decide, rfl⟩⟩⟩⟩
theorem cl_10_35 : CallOk 40995 (47, (0, false)) := ⟨(show xM "RightsHouse$Things" 35 Y_Th_closeHolds 0 from ⟨k_1_80, k_1_3, k_1_83, by decide, by decide, by decide +kernel⟩), ⟨fun q => absurd q (by decide), fun _ => ⟨⟨k_1_82, (tb_s (q := (⟨"RightsHouse$Things", "closeHolds", "()V"⟩, 7)) (by decide +kernel))⟩, fun fr lo nl t q h => by
  have e : t_room.get 47 = some (1, (40, (3, (0, 10)))) := by decide +kernel
  rw [e] at h
  cases h
  exact Or.inl ⟨by decide, 7, _, rfl, by decide, rfl⟩⟩⟩⟩
theorem cl_11_34 : CallOk 45090 (9, (1, false)) := ⟨(show xM "RightsHouse$Who" 34 Y_Wh_isPerson 1 from ⟨k_3_142, k_1_2, k_3_145, by decide, by decide, by decide +kernel⟩), ⟨fun q => absurd q (by decide), fun _ => ⟨⟨k_3_143, k_3_144⟩, fun fr lo nl t q h => by
  have e : t_room.get 9 = some (1, (40, (2, (2, 5)))) := by decide +kernel
  rw [e] at h
  cases h
  exact Or.inl ⟨by decide, 8, _, rfl, by decide, rfl⟩⟩⟩⟩
theorem cl_11_38 : CallOk 45094 (10, (1, false)) := ⟨(show xM "RightsHouse$Who" 38 Y_Wh_isGroup 1 from ⟨k_3_146, k_1_2, k_3_149, by decide, by decide, by decide +kernel⟩), ⟨fun q => absurd q (by decide), fun _ => ⟨⟨k_3_147, k_3_148⟩, fun fr lo nl t q h => by
  have e : t_room.get 10 = some (1, (40, (2, (2, 5)))) := by decide +kernel
  rw [e] at h
  cases h
  exact Or.inl ⟨by decide, 8, _, rfl, by decide, rfl⟩⟩⟩⟩
theorem cl_11_44 : CallOk 45100 (13, (1, false)) := ⟨(show xM "RightsHouse$Who" 44 Y_Wh_isLasting 1 from ⟨k_3_170, k_1_2, k_3_173, by decide, by decide, by decide +kernel⟩), ⟨fun q => absurd q (by decide), fun _ => ⟨⟨k_3_171, k_3_172⟩, fun fr lo nl t q h => by
  have e : t_room.get 13 = some (1, (40, (2, (2, 5)))) := by decide +kernel
  rw [e] at h
  cases h
  exact Or.inl ⟨by decide, 8, _, rfl, by decide, rfl⟩⟩⟩⟩
theorem cl_11_47 : CallOk 45103 (19, (2, false)) := ⟨(show xM "RightsHouse$Who" 47 Y_Wh_endRow 2 from ⟨k_6_167, k_1_2, k_3_189, by decide, by decide, by decide +kernel⟩), ⟨fun q => absurd q (by decide), fun _ => ⟨⟨k_3_187, k_3_188⟩, fun fr lo nl t q h => by
  have e : t_room.get 19 = some (1, (40, (3, (0, 5)))) := by decide +kernel
  rw [e] at h
  cases h
  exact Or.inl ⟨by decide, 8, _, rfl, by decide, rfl⟩⟩⟩⟩
theorem cl_11_51 : CallOk 45107 (14, (3, false)) := ⟨(show xM "RightsHouse$Who" 51 Y_Wh_counts 3 from ⟨k_3_166, k_1_2, k_3_169, by decide, by decide, by decide +kernel⟩), ⟨fun q => absurd q (by decide), fun _ => ⟨⟨k_3_168, (tb_s (q := (⟨"RightsHouse$Who", "counts", "(III)Z"⟩, 7)) (by decide +kernel))⟩, fun fr lo nl t q h => by
  have e : t_room.get 14 = some (2, (61, (6, (2, 5)))) := by decide +kernel
  rw [e] at h
  cases h
  exact Or.inl ⟨by decide, 8, _, rfl, by decide, rfl⟩⟩⟩⟩
theorem cl_11_55 : CallOk 45111 (15, (3, false)) := ⟨(show xM "RightsHouse$Who" 55 Y_Wh_reachedFrom 3 from ⟨k_3_158, k_1_2, k_3_161, by decide, by decide, by decide +kernel⟩), ⟨fun q => absurd q (by decide), fun _ => ⟨⟨k_3_159, k_3_160⟩, fun fr lo nl t q h => by
  have e : t_room.get 15 = some (3, (86, (8, (1, 5)))) := by decide +kernel
  rw [e] at h
  cases h
  exact Or.inl ⟨by decide, 8, _, rfl, by decide, rfl⟩⟩⟩⟩
theorem cl_11_59 : CallOk 45115 (12, (2, false)) := ⟨(show xM "RightsHouse$Who" 59 Y_Wh_isFromAmong 2 from ⟨k_3_162, k_1_2, k_3_165, by decide, by decide, by decide +kernel⟩), ⟨fun q => absurd q (by decide), fun _ => ⟨⟨k_3_164, (tb_s (q := (⟨"RightsHouse$Who", "isFromAmong", "(II)Z"⟩, 7)) (by decide +kernel))⟩, fun fr lo nl t q h => by
  have e : t_room.get 12 = some (1, (40, (4, (2, 5)))) := by decide +kernel
  rw [e] at h
  cases h
  exact Or.inl ⟨by decide, 8, _, rfl, by decide, rfl⟩⟩⟩⟩
theorem cl_11_63 : CallOk 45119 (30, (1, true)) := ⟨(show xM "RightsHouse$Who" 63 Y_Re_isNoNumber 1 from ⟨k_3_233, k_1_13, k_3_235, by decide, by decide, by decide +kernel⟩), ⟨fun _ => k_3_234, fun q => absurd q (by decide)⟩⟩
theorem cl_12_55 : CallOk 49207 (21, (3, false)) := ⟨(show xM "RightsHouse$Works" 55 Y_Wh_groupsOf 3 from ⟨k_6_238, k_1_2, k_3_198, by decide, by decide, by decide +kernel⟩), ⟨fun q => absurd q (by decide), fun _ => ⟨⟨k_3_196, k_3_197⟩, fun fr lo nl t q h => by
  have e : t_room.get 21 = some (4, (113, (6, (1, 5)))) := by decide +kernel
  rw [e] at h
  cases h
  exact Or.inl ⟨by decide, 8, _, rfl, by decide, rfl⟩⟩⟩⟩
theorem cl_12_65 : CallOk 49217 (185, (1, false)) := ⟨(show xM "RightsHouse$Works" 65 Y_Wo_searchFrom 1 from ⟨k_7_3, k_1_7, k_7_6, by decide, by decide, by decide +kernel⟩), ⟨fun q => absurd q (by decide), fun _ => ⟨⟨k_7_5, (tb_s (q := (⟨"RightsHouse$Works", "searchFrom", "(I)I"⟩, 15)) (by decide +kernel))⟩, fun fr lo nl t q h => by
  have e : t_room.get 185 = some (200, (4000, (4, (1, 41)))) := by decide +kernel
  rw [e] at h
  cases h
  exact Or.inl ⟨by decide, 9, _, rfl, by decide, rfl⟩⟩⟩⟩
theorem cl_12_69 : CallOk 49221 (184, (0, false)) := ⟨(show xM "RightsHouse$Works" 69 Y_Wo_doTiesHold 0 from ⟨k_7_7, k_1_7, k_7_10, by decide, by decide, by decide +kernel⟩), ⟨fun q => absurd q (by decide), fun _ => ⟨⟨k_7_9, (tb_s (q := (⟨"RightsHouse$Works", "doTiesHold", "()Z"⟩, 15)) (by decide +kernel))⟩, fun fr lo nl t q h => by
  have e : t_room.get 184 = some (20, (600, (6, (2, 41)))) := by decide +kernel
  rw [e] at h
  cases h
  exact Or.inl ⟨by decide, 9, _, rfl, by decide, rfl⟩⟩⟩⟩
theorem cl_12_73 : CallOk 49225 (186, (1, false)) := ⟨(show xM "RightsHouse$Works" 73 Y_Wo_search 1 from ⟨k_7_32, k_1_7, k_7_2, by decide, by decide, by decide +kernel⟩), ⟨fun q => absurd q (by decide), fun _ => ⟨⟨k_7_0, k_7_1⟩, fun fr lo nl t q h => by
  have e : t_room.get 186 = some (601, (20023, (2, (1, 41)))) := by decide +kernel
  rw [e] at h
  cases h
  exact Or.inl ⟨by decide, 9, _, rfl, by decide, rfl⟩⟩⟩⟩
theorem cl_12_82 : CallOk 49234 (183, (1, false)) := ⟨(show xM "RightsHouse$Works" 82 Y_Wo_hasAnybodyMoreThan 1 from ⟨k_7_12, k_1_7, k_7_15, by decide, by decide, by decide +kernel⟩), ⟨fun q => absurd q (by decide), fun _ => ⟨⟨k_7_14, (tb_s (q := (⟨"RightsHouse$Works", "hasAnybodyMoreThan", "(I)Z"⟩, 15)) (by decide +kernel))⟩, fun fr lo nl t q h => by
  have e : t_room.get 183 = some (1, (40, (5, (2, 41)))) := by decide +kernel
  rw [e] at h
  cases h
  exact Or.inl ⟨by decide, 9, _, rfl, by decide, rfl⟩⟩⟩⟩
theorem cl_13_333 : CallOk 53581 (284, (3, true)) := ⟨(show xM "RightsHouseModel" 333 Y_M_in 3 from ⟨k_10_152, k_1_12, k_10_154, by decide, by decide, by decide +kernel⟩), ⟨fun _ => k_10_153, fun q => absurd q (by decide)⟩⟩
theorem cl_13_349 : CallOk 53597 (292, (2, true)) := ⟨(show xM "RightsHouseModel" 349 Y_M_signed 2 from ⟨k_11_132, k_1_12, k_11_134, by decide, by decide, by decide +kernel⟩), ⟨fun _ => k_11_133, fun q => absurd q (by decide)⟩⟩
theorem cl_13_353 : CallOk 53601 (291, (1, true)) := ⟨(show xM "RightsHouseModel" 353 Y_M_length 1 from ⟨k_11_126, k_1_12, k_11_128, by decide, by decide, by decide +kernel⟩), ⟨fun _ => k_11_127, fun q => absurd q (by decide)⟩⟩
theorem cl_13_357 : CallOk 53605 (293, (3, true)) := ⟨(show xM "RightsHouseModel" 357 Y_M_pack 3 from ⟨k_11_136, k_1_12, k_11_138, by decide, by decide, by decide +kernel⟩), ⟨fun _ => k_11_137, fun q => absurd q (by decide)⟩⟩
theorem cl_13_361 : CallOk 53609 (294, (4, true)) := ⟨(show xM "RightsHouseModel" 361 Y_M_fit 4 from ⟨k_11_129, k_1_12, k_11_131, by decide, by decide, by decide +kernel⟩), ⟨fun _ => k_11_130, fun q => absurd q (by decide)⟩⟩
theorem cl_13_367 : CallOk 53615 (286, (1, true)) := ⟨(show xM "RightsHouseModel" 367 Y_M_isNan 1 from ⟨k_11_23, k_1_12, k_11_25, by decide, by decide, by decide +kernel⟩), ⟨fun _ => k_11_24, fun q => absurd q (by decide)⟩⟩
theorem cl_13_371 : CallOk 53619 (287, (1, true)) := ⟨(show xM "RightsHouseModel" 371 Y_M_isInfinite 1 from ⟨k_11_143, k_1_12, k_11_145, by decide, by decide, by decide +kernel⟩), ⟨fun _ => k_11_144, fun q => absurd q (by decide)⟩⟩
theorem cl_13_374 : CallOk 53622 (288, (1, true)) := ⟨(show xM "RightsHouseModel" 374 Y_M_isZero 1 from ⟨k_11_146, k_1_12, k_11_148, by decide, by decide, by decide +kernel⟩), ⟨fun _ => k_11_147, fun q => absurd q (by decide)⟩⟩
theorem cl_13_381 : CallOk 53629 (289, (1, true)) := ⟨(show xM "RightsHouseModel" 381 Y_M_mantissa 1 from ⟨k_11_149, k_1_12, k_11_151, by decide, by decide, by decide +kernel⟩), ⟨fun _ => k_11_150, fun q => absurd q (by decide)⟩⟩
theorem cl_13_387 : CallOk 53635 (290, (1, true)) := ⟨(show xM "RightsHouseModel" 387 Y_M_exponent 1 from ⟨k_11_154, k_1_12, k_11_156, by decide, by decide, by decide +kernel⟩), ⟨fun _ => k_11_155, fun q => absurd q (by decide)⟩⟩
theorem cl_13_409 : CallOk 53657 (305, (2, true)) := ⟨(show xM "RightsHouseModel" 409 Y_M_mixed 2 from ⟨k_10_184, k_1_12, k_10_186, by decide, by decide, by decide +kernel⟩), ⟨fun _ => k_10_185, fun q => absurd q (by decide)⟩⟩
theorem cl_13_416 : CallOk 53664 (306, (2, false)) := ⟨(show xM "RightsHouseModel" 416 Y_M_sumOf 2 from ⟨k_10_180, k_1_12, k_10_183, by decide, by decide, by decide +kernel⟩), ⟨fun q => absurd q (by decide), fun _ => ⟨⟨k_10_182, (tb_s (q := (⟨"RightsHouseModel", "sumOf", "(II)I"⟩, 151)) (by decide +kernel))⟩, fun fr lo nl t q h => by
  have e : t_room.get 306 = some (2, (62, (5, (1, 110)))) := by decide +kernel
  rw [e] at h
  cases h
  exact Or.inl ⟨by decide, 11, _, rfl, by decide, rfl⟩⟩⟩⟩
theorem cl_13_432 : CallOk 53680 (316, (3, false)) := ⟨(show xM "RightsHouseModel" 432 Y_M_standsAt 3 from ⟨k_10_233, k_1_12, k_10_236, by decide, by decide, by decide +kernel⟩), ⟨fun q => absurd q (by decide), fun _ => ⟨⟨k_10_235, (tb_s (q := (⟨"RightsHouseModel", "standsAt", "(III)Z"⟩, 151)) (by decide +kernel))⟩, fun fr lo nl t q h => by
  have e : t_room.get 316 = some (1, (40, (4, (2, 110)))) := by decide +kernel
  rw [e] at h
  cases h
  exact Or.inl ⟨by decide, 11, _, rfl, by decide, rfl⟩⟩⟩⟩
theorem cl_13_436 : CallOk 53684 (317, (2, false)) := ⟨(show xM "RightsHouseModel" 436 Y_M_spreads 2 from ⟨k_10_237, k_1_12, k_11_0, by decide, by decide, by decide +kernel⟩), ⟨fun q => absurd q (by decide), fun _ => ⟨⟨k_10_239, (tb_s (q := (⟨"RightsHouseModel", "spreads", "(II)V"⟩, 151)) (by decide +kernel))⟩, fun fr lo nl t q h => by
  have e : t_room.get 317 = some (2, (63, (5, (0, 110)))) := by decide +kernel
  rw [e] at h
  cases h
  exact Or.inl ⟨by decide, 11, _, rfl, by decide, rfl⟩⟩⟩⟩
theorem cl_13_440 : CallOk 53688 (318, (3, false)) := ⟨(show xM "RightsHouseModel" 440 Y_M_reaches 3 from ⟨k_10_229, k_1_12, k_10_232, by decide, by decide, by decide +kernel⟩), ⟨fun q => absurd q (by decide), fun _ => ⟨⟨k_10_231, (tb_s (q := (⟨"RightsHouseModel", "reaches", "(III)V"⟩, 151)) (by decide +kernel))⟩, fun fr lo nl t q h => by
  have e : t_room.get 318 = some (3, (87, (5, (0, 110)))) := by decide +kernel
  rw [e] at h
  cases h
  exact Or.inl ⟨by decide, 11, _, rfl, by decide, rfl⟩⟩⟩⟩
theorem cl_13_444 : CallOk 53692 (314, (1, false)) := ⟨(show xM "RightsHouseModel" 444 Y_M_isPerson 1 from ⟨k_10_205, k_1_12, k_10_208, by decide, by decide, by decide +kernel⟩), ⟨fun q => absurd q (by decide), fun _ => ⟨⟨k_10_207, (tb_s (q := (⟨"RightsHouseModel", "isPerson", "(I)Z"⟩, 151)) (by decide +kernel))⟩, fun fr lo nl t q h => by
  have e : t_room.get 314 = some (2, (65, (2, (2, 110)))) := by decide +kernel
  rw [e] at h
  cases h
  exact Or.inl ⟨by decide, 11, _, rfl, by decide, rfl⟩⟩⟩⟩
theorem cl_13_448 : CallOk 53696 (315, (1, false)) := ⟨(show xM "RightsHouseModel" 448 Y_M_isGroup 1 from ⟨k_10_209, k_1_12, k_10_212, by decide, by decide, by decide +kernel⟩), ⟨fun q => absurd q (by decide), fun _ => ⟨⟨k_10_211, (tb_s (q := (⟨"RightsHouseModel", "isGroup", "(I)Z"⟩, 151)) (by decide +kernel))⟩, fun fr lo nl t q h => by
  have e : t_room.get 315 = some (2, (65, (2, (2, 110)))) := by decide +kernel
  rw [e] at h
  cases h
  exact Or.inl ⟨by decide, 11, _, rfl, by decide, rfl⟩⟩⟩⟩
theorem cl_13_451 : CallOk 53699 (285, (1, true)) := ⟨(show xM "RightsHouseModel" 451 Y_M_isMoment 1 from ⟨k_10_213, k_1_12, k_10_215, by decide, by decide, by decide +kernel⟩), ⟨fun _ => k_10_214, fun q => absurd q (by decide)⟩⟩
theorem cl_13_454 : CallOk 53702 (320, (4, false)) := ⟨(show xM "RightsHouseModel" 454 Y_M_rowPut 4 from ⟨k_10_217, k_1_12, k_10_220, by decide, by decide, by decide +kernel⟩), ⟨fun q => absurd q (by decide), fun _ => ⟨⟨k_10_219, (tb_s (q := (⟨"RightsHouseModel", "rowPut", "(IIII)I"⟩, 151)) (by decide +kernel))⟩, fun fr lo nl t q h => by
  have e : t_room.get 320 = some (1, (40, (5, (1, 110)))) := by decide +kernel
  rw [e] at h
  cases h
  exact Or.inl ⟨by decide, 11, _, rfl, by decide, rfl⟩⟩⟩⟩
theorem cl_13_458 : CallOk 53706 (325, (1, false)) := ⟨(show xM "RightsHouseModel" 458 Y_M_isThing 1 from ⟨k_11_13, k_1_12, k_11_16, by decide, by decide, by decide +kernel⟩), ⟨fun q => absurd q (by decide), fun _ => ⟨⟨k_11_15, (tb_s (q := (⟨"RightsHouseModel", "isThing", "(I)Z"⟩, 151)) (by decide +kernel))⟩, fun fr lo nl t q h => by
  have e : t_room.get 325 = some (2, (65, (2, (2, 110)))) := by decide +kernel
  rw [e] at h
  cases h
  exact Or.inl ⟨by decide, 11, _, rfl, by decide, rfl⟩⟩⟩⟩
theorem cl_13_463 : CallOk 53711 (326, (2, false)) := ⟨(show xM "RightsHouseModel" 463 Y_M_rowFor 2 from ⟨k_11_9, k_1_12, k_11_12, by decide, by decide, by decide +kernel⟩), ⟨fun q => absurd q (by decide), fun _ => ⟨⟨k_11_11, (tb_s (q := (⟨"RightsHouseModel", "rowFor", "(II)I"⟩, 151)) (by decide +kernel))⟩, fun fr lo nl t q h => by
  have e : t_room.get 326 = some (3, (86, (4, (1, 110)))) := by decide +kernel
  rw [e] at h
  cases h
  exact Or.inl ⟨by decide, 11, _, rfl, by decide, rfl⟩⟩⟩⟩
theorem cl_13_476 : CallOk 53724 (331, (0, false)) := ⟨(show xM "RightsHouseModel" 476 Y_M_begins 0 from ⟨k_11_45, k_1_12, k_11_48, by decide, by decide, by decide +kernel⟩), ⟨fun q => absurd q (by decide), fun _ => ⟨⟨k_11_47, (tb_s (q := (⟨"RightsHouseModel", "begins", "()V"⟩, 151)) (by decide +kernel))⟩, fun fr lo nl t q h => by
  have e : t_room.get 331 = some (1, (40, (2, (0, 110)))) := by decide +kernel
  rw [e] at h
  cases h
  exact Or.inl ⟨by decide, 11, _, rfl, by decide, rfl⟩⟩⟩⟩
theorem cl_13_479 : CallOk 53727 (332, (1, false)) := ⟨(show xM "RightsHouseModel" 479 Y_M_isHere 1 from ⟨k_11_49, k_1_12, k_11_52, by decide, by decide, by decide +kernel⟩), ⟨fun q => absurd q (by decide), fun _ => ⟨⟨k_11_51, (tb_s (q := (⟨"RightsHouseModel", "isHere", "(I)Z"⟩, 151)) (by decide +kernel))⟩, fun fr lo nl t q h => by
  have e : t_room.get 332 = some (3, (86, (2, (2, 110)))) := by decide +kernel
  rw [e] at h
  cases h
  exact Or.inl ⟨by decide, 11, _, rfl, by decide, rfl⟩⟩⟩⟩
theorem cl_13_484 : CallOk 53732 (337, (1, false)) := ⟨(show xM "RightsHouseModel" 484 Y_M_depthOf 1 from ⟨k_11_70, k_1_12, k_11_73, by decide, by decide, by decide +kernel⟩), ⟨fun q => absurd q (by decide), fun _ => ⟨⟨k_11_72, (tb_s (q := (⟨"RightsHouseModel", "depthOf", "(I)I"⟩, 151)) (by decide +kernel))⟩, fun fr lo nl t q h => by
  have e : t_room.get 337 = some (1, (40, (4, (1, 110)))) := by decide +kernel
  rw [e] at h
  cases h
  exact Or.inl ⟨by decide, 11, _, rfl, by decide, rfl⟩⟩⟩⟩
theorem cl_13_488 : CallOk 53736 (339, (2, false)) := ⟨(show xM "RightsHouseModel" 488 Y_M_isUnder 2 from ⟨k_11_78, k_1_12, k_11_81, by decide, by decide, by decide +kernel⟩), ⟨fun q => absurd q (by decide), fun _ => ⟨⟨k_11_80, (tb_s (q := (⟨"RightsHouseModel", "isUnder", "(II)Z"⟩, 151)) (by decide +kernel))⟩, fun fr lo nl t q h => by
  have e : t_room.get 339 = some (1, (40, (4, (2, 110)))) := by decide +kernel
  rw [e] at h
  cases h
  exact Or.inl ⟨by decide, 11, _, rfl, by decide, rfl⟩⟩⟩⟩
theorem cl_13_492 : CallOk 53740 (342, (1, false)) := ⟨(show xM "RightsHouseModel" 492 Y_M_heldBy 1 from ⟨k_11_94, k_1_12, k_11_97, by decide, by decide, by decide +kernel⟩), ⟨fun q => absurd q (by decide), fun _ => ⟨⟨k_11_96, (tb_s (q := (⟨"RightsHouseModel", "heldBy", "(I)I"⟩, 151)) (by decide +kernel))⟩, fun fr lo nl t q h => by
  have e : t_room.get 342 = some (2, (61, (6, (1, 110)))) := by decide +kernel
  rw [e] at h
  cases h
  exact Or.inl ⟨by decide, 11, _, rfl, by decide, rfl⟩⟩⟩⟩
theorem cl_13_495 : CallOk 53743 (343, (2, false)) := ⟨(show xM "RightsHouseModel" 495 Y_M_isHeld 2 from ⟨k_11_90, k_1_12, k_11_93, by decide, by decide, by decide +kernel⟩), ⟨fun q => absurd q (by decide), fun _ => ⟨⟨k_11_92, (tb_s (q := (⟨"RightsHouseModel", "isHeld", "(II)Z"⟩, 151)) (by decide +kernel))⟩, fun fr lo nl t q h => by
  have e : t_room.get 343 = some (3, (86, (3, (2, 110)))) := by decide +kernel
  rw [e] at h
  cases h
  exact Or.inl ⟨by decide, 11, _, rfl, by decide, rfl⟩⟩⟩⟩
theorem cl_13_501 : CallOk 53749 (345, (1, false)) := ⟨(show xM "RightsHouseModel" 501 Y_M_byteAt 1 from ⟨k_11_106, k_1_12, k_11_109, by decide, by decide, by decide +kernel⟩), ⟨fun q => absurd q (by decide), fun _ => ⟨⟨k_11_108, (tb_s (q := (⟨"RightsHouseModel", "byteAt", "(I)I"⟩, 151)) (by decide +kernel))⟩, fun fr lo nl t q h => by
  have e : t_room.get 345 = some (1, (40, (2, (1, 110)))) := by decide +kernel
  rw [e] at h
  cases h
  exact Or.inl ⟨by decide, 11, _, rfl, by decide, rfl⟩⟩⟩⟩
theorem cl_13_514 : CallOk 53762 (347, (1, true)) := ⟨(show xM "RightsHouseModel" 514 Y_M_isLetter 1 from ⟨k_11_110, k_1_12, k_11_112, by decide, by decide, by decide +kernel⟩), ⟨fun _ => k_11_111, fun q => absurd q (by decide)⟩⟩
theorem cl_13_517 : CallOk 53765 (346, (1, true)) := ⟨(show xM "RightsHouseModel" 517 Y_M_isFigure 1 from ⟨k_11_113, k_1_12, k_11_115, by decide, by decide, by decide +kernel⟩), ⟨fun _ => k_11_114, fun q => absurd q (by decide)⟩⟩
theorem cl_13_522 : CallOk 53770 (348, (0, false)) := ⟨(show xM "RightsHouseModel" 522 Y_M_number 0 from ⟨k_11_117, k_1_12, k_11_120, by decide, by decide, by decide +kernel⟩), ⟨fun q => absurd q (by decide), fun _ => ⟨⟨k_11_119, (tb_s (q := (⟨"RightsHouseModel", "number", "()V"⟩, 151)) (by decide +kernel))⟩, fun fr lo nl t q h => by
  have e : t_room.get 348 = some (5, (155, (4, (0, 110)))) := by decide +kernel
  rw [e] at h
  cases h
  exact Or.inl ⟨by decide, 11, _, rfl, by decide, rfl⟩⟩⟩⟩
theorem cl_13_525 : CallOk 53773 (349, (1, false)) := ⟨(show xM "RightsHouseModel" 525 Y_M_sign 1 from ⟨k_11_157, k_1_12, k_11_160, by decide, by decide, by decide +kernel⟩), ⟨fun q => absurd q (by decide), fun _ => ⟨⟨k_11_159, (tb_s (q := (⟨"RightsHouseModel", "sign", "(I)V"⟩, 151)) (by decide +kernel))⟩, fun fr lo nl t q h => by
  have e : t_room.get 349 = some (2, (61, (4, (0, 110)))) := by decide +kernel
  rw [e] at h
  cases h
  exact Or.inl ⟨by decide, 11, _, rfl, by decide, rfl⟩⟩⟩⟩
theorem cl_13_533 : CallOk 53781 (295, (1, true)) := ⟨(show xM "RightsHouseModel" 533 Y_M_ofWhole 1 from ⟨k_11_123, k_1_12, k_11_125, by decide, by decide, by decide +kernel⟩), ⟨fun _ => k_11_124, fun q => absurd q (by decide)⟩⟩
theorem cl_13_536 : CallOk 53784 (299, (2, true)) := ⟨(show xM "RightsHouseModel" 536 Y_M_over 2 from ⟨k_11_140, k_1_12, k_11_142, by decide, by decide, by decide +kernel⟩), ⟨fun _ => k_11_141, fun q => absurd q (by decide)⟩⟩
theorem cl_13_552 : CallOk 53800 (354, (2, false)) := ⟨(show xM "RightsHouseModel" 552 Y_M_emit 2 from ⟨k_11_219, k_1_12, k_11_222, by decide, by decide, by decide +kernel⟩), ⟨fun q => absurd q (by decide), fun _ => ⟨⟨k_11_221, (tb_s (q := (⟨"RightsHouseModel", "emit", "(IJ)V"⟩, 151)) (by decide +kernel))⟩, fun fr lo nl t q h => by
  have e : t_room.get 354 = some (1, (40, (4, (0, 110)))) := by decide +kernel
  rw [e] at h
  cases h
  exact Or.inl ⟨by decide, 11, _, rfl, by decide, rfl⟩⟩⟩⟩
theorem cl_13_562 : CallOk 53810 (352, (5, false)) := ⟨(show xM "RightsHouseModel" 562 Y_M_isWord 5 from ⟨k_11_169, k_1_12, k_11_172, by decide, by decide, by decide +kernel⟩), ⟨fun q => absurd q (by decide), fun _ => ⟨⟨k_11_171, (tb_s (q := (⟨"RightsHouseModel", "isWord", "(IIIII)Z"⟩, 151)) (by decide +kernel))⟩, fun fr lo nl t q h => by
  have e : t_room.get 352 = some (1, (40, (8, (2, 110)))) := by decide +kernel
  rw [e] at h
  cases h
  exact Or.inl ⟨by decide, 11, _, rfl, by decide, rfl⟩⟩⟩⟩
theorem cl_13_566 : CallOk 53814 (350, (0, false)) := ⟨(show xM "RightsHouseModel" 566 Y_M_token 0 from ⟨k_11_102, k_1_12, k_11_105, by decide, by decide, by decide +kernel⟩), ⟨fun q => absurd q (by decide), fun _ => ⟨⟨k_11_104, (tb_s (q := (⟨"RightsHouseModel", "token", "()V"⟩, 151)) (by decide +kernel))⟩, fun fr lo nl t q h => by
  have e : t_room.get 350 = some (6, (178, (2, (0, 110)))) := by decide +kernel
  rw [e] at h
  cases h
  exact Or.inl ⟨by decide, 11, _, rfl, by decide, rfl⟩⟩⟩⟩
theorem cl_13_569 : CallOk 53817 (351, (1, false)) := ⟨(show xM "RightsHouseModel" 569 Y_M_isSign 1 from ⟨k_11_193, k_1_12, k_11_196, by decide, by decide, by decide +kernel⟩), ⟨fun q => absurd q (by decide), fun _ => ⟨⟨k_11_195, (tb_s (q := (⟨"RightsHouseModel", "isSign", "(I)Z"⟩, 151)) (by decide +kernel))⟩, fun fr lo nl t q h => by
  have e : t_room.get 351 = some (1, (40, (2, (2, 110)))) := by decide +kernel
  rw [e] at h
  cases h
  exact Or.inl ⟨by decide, 11, _, rfl, by decide, rfl⟩⟩⟩⟩
theorem cl_13_579 : CallOk 53827 (355, (1, false)) := ⟨(show xM "RightsHouseModel" 579 Y_M_reduce 1 from ⟨k_11_231, k_1_12, k_11_234, by decide, by decide, by decide +kernel⟩), ⟨fun q => absurd q (by decide), fun _ => ⟨⟨k_11_233, (tb_s (q := (⟨"RightsHouseModel", "reduce", "(I)V"⟩, 151)) (by decide +kernel))⟩, fun fr lo nl t q h => by
  have e : t_room.get 355 = some (2, (63, (2, (0, 110)))) := by decide +kernel
  rw [e] at h
  cases h
  exact Or.inl ⟨by decide, 11, _, rfl, by decide, rfl⟩⟩⟩⟩
theorem cl_13_588 : CallOk 53836 (357, (0, false)) := ⟨(show xM "RightsHouseModel" 588 Y_M_deeper 0 from ⟨k_11_205, k_1_12, k_11_208, by decide, by decide, by decide +kernel⟩), ⟨fun q => absurd q (by decide), fun _ => ⟨⟨k_11_207, (tb_s (q := (⟨"RightsHouseModel", "deeper", "()Z"⟩, 151)) (by decide +kernel))⟩, fun fr lo nl t q h => by
  have e : t_room.get 357 = some (1, (40, (1, (2, 110)))) := by decide +kernel
  rw [e] at h
  cases h
  exact Or.inl ⟨by decide, 11, _, rfl, by decide, rfl⟩⟩⟩⟩
theorem cl_13_592 : CallOk 53840 (356, (3, false)) := ⟨(show xM "RightsHouseModel" 592 Y_M_holdBack 3 from ⟨k_11_209, k_1_12, k_11_212, by decide, by decide, by decide +kernel⟩), ⟨fun q => absurd q (by decide), fun _ => ⟨⟨k_11_211, (tb_s (q := (⟨"RightsHouseModel", "holdBack", "(III)V"⟩, 151)) (by decide +kernel))⟩, fun fr lo nl t q h => by
  have e : t_room.get 356 = some (1, (40, (4, (0, 110)))) := by decide +kernel
  rw [e] at h
  cases h
  exact Or.inl ⟨by decide, 11, _, rfl, by decide, rfl⟩⟩⟩⟩
theorem cl_13_595 : CallOk 53843 (359, (0, false)) := ⟨(show xM "RightsHouseModel" 595 Y_M_isFeature 0 from ⟨k_11_213, k_1_12, k_11_216, by decide, by decide, by decide +kernel⟩), ⟨fun q => absurd q (by decide), fun _ => ⟨⟨k_11_215, (tb_s (q := (⟨"RightsHouseModel", "isFeature", "()Z"⟩, 151)) (by decide +kernel))⟩, fun fr lo nl t q h => by
  have e : t_room.get 359 = some (7, (199, (2, (2, 110)))) := by decide +kernel
  rw [e] at h
  cases h
  exact Or.inl ⟨by decide, 11, _, rfl, by decide, rfl⟩⟩⟩⟩
theorem cl_13_598 : CallOk 53846 (358, (2, false)) := ⟨(show xM "RightsHouseModel" 598 Y_M_opens 2 from ⟨k_11_223, k_1_12, k_11_226, by decide, by decide, by decide +kernel⟩), ⟨fun q => absurd q (by decide), fun _ => ⟨⟨k_11_225, (tb_s (q := (⟨"RightsHouseModel", "opens", "(II)V"⟩, 151)) (by decide +kernel))⟩, fun fr lo nl t q h => by
  have e : t_room.get 358 = some (1, (40, (3, (0, 110)))) := by decide +kernel
  rw [e] at h
  cases h
  exact Or.inl ⟨by decide, 11, _, rfl, by decide, rfl⟩⟩⟩⟩
theorem cl_13_601 : CallOk 53849 (360, (0, false)) := ⟨(show xM "RightsHouseModel" 601 Y_M_valueDone 0 from ⟨k_11_227, k_1_12, k_11_230, by decide, by decide, by decide +kernel⟩), ⟨fun q => absurd q (by decide), fun _ => ⟨⟨k_11_229, (tb_s (q := (⟨"RightsHouseModel", "valueDone", "()V"⟩, 151)) (by decide +kernel))⟩, fun fr lo nl t q h => by
  have e : t_room.get 360 = some (3, (84, (1, (0, 110)))) := by decide +kernel
  rw [e] at h
  cases h
  exact Or.inl ⟨by decide, 11, _, rfl, by decide, rfl⟩⟩⟩⟩
theorem cl_13_604 : CallOk 53852 (361, (0, false)) := ⟨(show xM "RightsHouseModel" 604 Y_M_featureDone 0 from ⟨k_11_235, k_1_12, k_11_238, by decide, by decide, by decide +kernel⟩), ⟨fun q => absurd q (by decide), fun _ => ⟨⟨k_11_237, (tb_s (q := (⟨"RightsHouseModel", "featureDone", "()V"⟩, 151)) (by decide +kernel))⟩, fun fr lo nl t q h => by
  have e : t_room.get 361 = some (7, (199, (3, (0, 110)))) := by decide +kernel
  rw [e] at h
  cases h
  exact Or.inl ⟨by decide, 11, _, rfl, by decide, rfl⟩⟩⟩⟩
theorem cl_13_607 : CallOk 53855 (364, (1, true)) := ⟨(show xM "RightsHouseModel" 607 Y_M_reckoning 1 from ⟨k_12_3, k_1_12, k_12_5, by decide, by decide, by decide +kernel⟩), ⟨fun _ => k_12_4, fun q => absurd q (by decide)⟩⟩
theorem cl_13_610 : CallOk 53858 (363, (1, true)) := ⟨(show xM "RightsHouseModel" 610 Y_M_comparison 1 from ⟨k_12_6, k_1_12, k_12_8, by decide, by decide, by decide +kernel⟩), ⟨fun _ => k_12_7, fun q => absurd q (by decide)⟩⟩
theorem cl_13_613 : CallOk 53861 (365, (0, false)) := ⟨(show xM "RightsHouseModel" 613 Y_M_closes 0 from ⟨k_12_9, k_1_12, k_12_12, by decide, by decide, by decide +kernel⟩), ⟨fun q => absurd q (by decide), fun _ => ⟨⟨k_12_11, (tb_s (q := (⟨"RightsHouseModel", "closes", "()Z"⟩, 151)) (by decide +kernel))⟩, fun fr lo nl t q h => by
  have e : t_room.get 365 = some (1, (40, (1, (2, 110)))) := by decide +kernel
  rw [e] at h
  cases h
  exact Or.inl ⟨by decide, 11, _, rfl, by decide, rfl⟩⟩⟩⟩
theorem cl_13_616 : CallOk 53864 (366, (0, false)) := ⟨(show xM "RightsHouseModel" 616 Y_M_closed 0 from ⟨k_12_13, k_1_12, k_12_16, by decide, by decide, by decide +kernel⟩), ⟨fun q => absurd q (by decide), fun _ => ⟨⟨k_12_15, (tb_s (q := (⟨"RightsHouseModel", "closed", "()V"⟩, 151)) (by decide +kernel))⟩, fun fr lo nl t q h => by
  have e : t_room.get 366 = some (4, (104, (2, (0, 110)))) := by decide +kernel
  rw [e] at h
  cases h
  exact Or.inl ⟨by decide, 11, _, rfl, by decide, rfl⟩⟩⟩⟩
theorem cl_13_619 : CallOk 53867 (362, (0, false)) := ⟨(show xM "RightsHouseModel" 619 Y_M_wanted 0 from ⟨k_11_201, k_1_12, k_11_204, by decide, by decide, by decide +kernel⟩), ⟨fun q => absurd q (by decide), fun _ => ⟨⟨k_11_203, (tb_s (q := (⟨"RightsHouseModel", "wanted", "()V"⟩, 151)) (by decide +kernel))⟩, fun fr lo nl t q h => by
  have e : t_room.get 362 = some (8, (221, (1, (0, 110)))) := by decide +kernel
  rw [e] at h
  cases h
  exact Or.inl ⟨by decide, 11, _, rfl, by decide, rfl⟩⟩⟩⟩
theorem cl_13_622 : CallOk 53870 (367, (0, false)) := ⟨(show xM "RightsHouseModel" 622 Y_M_goesOn 0 from ⟨k_11_239, k_1_12, k_12_2, by decide, by decide, by decide +kernel⟩), ⟨fun q => absurd q (by decide), fun _ => ⟨⟨k_12_1, (tb_s (q := (⟨"RightsHouseModel", "goesOn", "()Z"⟩, 151)) (by decide +kernel))⟩, fun fr lo nl t q h => by
  have e : t_room.get 367 = some (8, (220, (4, (2, 110)))) := by decide +kernel
  rw [e] at h
  cases h
  exact Or.inl ⟨by decide, 11, _, rfl, by decide, rfl⟩⟩⟩⟩
theorem cl_13_625 : CallOk 53873 (369, (0, false)) := ⟨(show xM "RightsHouseModel" 625 Y_M_fails 0 from ⟨k_11_173, k_1_12, k_11_176, by decide, by decide, by decide +kernel⟩), ⟨fun q => absurd q (by decide), fun _ => ⟨⟨k_11_175, (tb_s (q := (⟨"RightsHouseModel", "fails", "()Z"⟩, 151)) (by decide +kernel))⟩, fun fr lo nl t q h => by
  have e : t_room.get 369 = some (1, (40, (1, (2, 110)))) := by decide +kernel
  rw [e] at h
  cases h
  exact Or.inl ⟨by decide, 11, _, rfl, by decide, rfl⟩⟩⟩⟩
theorem cl_13_628 : CallOk 53876 (353, (1, false)) := ⟨(show xM "RightsHouseModel" 628 Y_M_numbered 1 from ⟨k_11_181, k_1_12, k_11_184, by decide, by decide, by decide +kernel⟩), ⟨fun q => absurd q (by decide), fun _ => ⟨⟨k_11_183, (tb_s (q := (⟨"RightsHouseModel", "numbered", "(I)I"⟩, 151)) (by decide +kernel))⟩, fun fr lo nl t q h => by
  have e : t_room.get 353 = some (2, (61, (5, (1, 110)))) := by decide +kernel
  rw [e] at h
  cases h
  exact Or.inl ⟨by decide, 11, _, rfl, by decide, rfl⟩⟩⟩⟩
theorem cl_13_631 : CallOk 53879 (370, (1, false)) := ⟨(show xM "RightsHouseModel" 631 Y_M_isEffect 1 from ⟨k_11_165, k_1_12, k_11_168, by decide, by decide, by decide +kernel⟩), ⟨fun q => absurd q (by decide), fun _ => ⟨⟨k_11_167, (tb_s (q := (⟨"RightsHouseModel", "isEffect", "(I)Z"⟩, 151)) (by decide +kernel))⟩, fun fr lo nl t q h => by
  have e : t_room.get 370 = some (2, (67, (2, (2, 110)))) := by decide +kernel
  rw [e] at h
  cases h
  exact Or.inl ⟨by decide, 11, _, rfl, by decide, rfl⟩⟩⟩⟩
theorem cl_13_634 : CallOk 53882 (371, (1, false)) := ⟨(show xM "RightsHouseModel" 634 Y_M_isWho 1 from ⟨k_11_177, k_1_12, k_11_180, by decide, by decide, by decide +kernel⟩), ⟨fun q => absurd q (by decide), fun _ => ⟨⟨k_11_179, (tb_s (q := (⟨"RightsHouseModel", "isWho", "(I)Z"⟩, 151)) (by decide +kernel))⟩, fun fr lo nl t q h => by
  have e : t_room.get 371 = some (3, (86, (4, (2, 110)))) := by decide +kernel
  rw [e] at h
  cases h
  exact Or.inl ⟨by decide, 11, _, rfl, by decide, rfl⟩⟩⟩⟩
theorem cl_13_637 : CallOk 53885 (372, (1, false)) := ⟨(show xM "RightsHouseModel" 637 Y_M_isAct 1 from ⟨k_11_185, k_1_12, k_11_188, by decide, by decide, by decide +kernel⟩), ⟨fun q => absurd q (by decide), fun _ => ⟨⟨k_11_187, (tb_s (q := (⟨"RightsHouseModel", "isAct", "(I)Z"⟩, 151)) (by decide +kernel))⟩, fun fr lo nl t q h => by
  have e : t_room.get 372 = some (2, (67, (2, (2, 110)))) := by decide +kernel
  rw [e] at h
  cases h
  exact Or.inl ⟨by decide, 11, _, rfl, by decide, rfl⟩⟩⟩⟩
theorem cl_13_640 : CallOk 53888 (373, (1, false)) := ⟨(show xM "RightsHouseModel" 640 Y_M_isRuleThing 1 from ⟨k_11_189, k_1_12, k_11_192, by decide, by decide, by decide +kernel⟩), ⟨fun q => absurd q (by decide), fun _ => ⟨⟨k_11_191, (tb_s (q := (⟨"RightsHouseModel", "isRuleThing", "(I)Z"⟩, 151)) (by decide +kernel))⟩, fun fr lo nl t q h => by
  have e : t_room.get 373 = some (7, (199, (3, (2, 110)))) := by decide +kernel
  rw [e] at h
  cases h
  exact Or.inl ⟨by decide, 11, _, rfl, by decide, rfl⟩⟩⟩⟩
theorem cl_13_643 : CallOk 53891 (368, (0, false)) := ⟨(show xM "RightsHouseModel" 643 Y_M_condition 0 from ⟨k_11_197, k_1_12, k_11_200, by decide, by decide, by decide +kernel⟩), ⟨fun q => absurd q (by decide), fun _ => ⟨⟨k_11_199, (tb_s (q := (⟨"RightsHouseModel", "condition", "()V"⟩, 151)) (by decide +kernel))⟩, fun fr lo nl t q h => by
  have e : t_room.get 368 = some (9, (243, (2, (0, 110)))) := by decide +kernel
  rw [e] at h
  cases h
  exact Or.inl ⟨by decide, 11, _, rfl, by decide, rfl⟩⟩⟩⟩
theorem cl_13_649 : CallOk 53897 (374, (1, false)) := ⟨(show xM "RightsHouseModel" 649 Y_M_isRule 1 from ⟨k_11_161, k_1_12, k_11_164, by decide, by decide, by decide +kernel⟩), ⟨fun q => absurd q (by decide), fun _ => ⟨⟨k_11_163, (tb_s (q := (⟨"RightsHouseModel", "isRule", "(I)Z"⟩, 151)) (by decide +kernel))⟩, fun fr lo nl t q h => by
  have e : t_room.get 374 = some (10, (264, (2, (2, 110)))) := by decide +kernel
  rw [e] at h
  cases h
  exact Or.inl ⟨by decide, 11, _, rfl, by decide, rfl⟩⟩⟩⟩
theorem cl_13_652 : CallOk 53900 (376, (1, false)) := ⟨(show xM "RightsHouseModel" 652 Y_M_isPolicy 1 from ⟨k_12_21, k_1_12, k_12_24, by decide, by decide, by decide +kernel⟩), ⟨fun q => absurd q (by decide), fun _ => ⟨⟨k_12_23, (tb_s (q := (⟨"RightsHouseModel", "isPolicy", "(I)Z"⟩, 151)) (by decide +kernel))⟩, fun fr lo nl t q h => by
  have e : t_room.get 376 = some (2, (65, (2, (2, 110)))) := by decide +kernel
  rw [e] at h
  cases h
  exact Or.inl ⟨by decide, 11, _, rfl, by decide, rfl⟩⟩⟩⟩
theorem cl_13_658 : CallOk 53906 (378, (2, false)) := ⟨(show xM "RightsHouseModel" 658 Y_M_push 2 from ⟨k_12_53, k_1_12, k_12_56, by decide, by decide, by decide +kernel⟩), ⟨fun q => absurd q (by decide), fun _ => ⟨⟨k_12_55, (tb_s (q := (⟨"RightsHouseModel", "push", "(IJ)V"⟩, 151)) (by decide +kernel))⟩, fun fr lo nl t q h => by
  have e : t_room.get 378 = some (1, (40, (4, (0, 110)))) := by decide +kernel
  rw [e] at h
  cases h
  exact Or.inl ⟨by decide, 11, _, rfl, by decide, rfl⟩⟩⟩⟩
theorem cl_13_663 : CallOk 53911 (379, (2, false)) := ⟨(show xM "RightsHouseModel" 663 Y_M_pushItem 2 from ⟨k_12_57, k_1_12, k_12_60, by decide, by decide, by decide +kernel⟩), ⟨fun q => absurd q (by decide), fun _ => ⟨⟨k_12_59, (tb_s (q := (⟨"RightsHouseModel", "pushItem", "(II)V"⟩, 151)) (by decide +kernel))⟩, fun fr lo nl t q h => by
  have e : t_room.get 379 = some (2, (65, (3, (0, 110)))) := by decide +kernel
  rw [e] at h
  cases h
  exact Or.inl ⟨by decide, 11, _, rfl, by decide, rfl⟩⟩⟩⟩
theorem cl_13_666 : CallOk 53914 (382, (2, true)) := ⟨(show xM "RightsHouseModel" 666 Y_M_holdsFor 2 from ⟨k_12_74, k_1_12, k_12_76, by decide, by decide, by decide +kernel⟩), ⟨fun _ => k_12_75, fun q => absurd q (by decide)⟩⟩
theorem cl_13_669 : CallOk 53917 (301, (1, true)) := ⟨(show xM "RightsHouseModel" 669 Y_M_rank 1 from ⟨k_12_77, k_1_12, k_12_79, by decide, by decide, by decide +kernel⟩), ⟨fun _ => k_12_78, fun q => absurd q (by decide)⟩⟩
theorem cl_13_672 : CallOk 53920 (297, (2, true)) := ⟨(show xM "RightsHouseModel" 672 Y_M_plus 2 from ⟨k_12_80, k_1_12, k_12_82, by decide, by decide, by decide +kernel⟩), ⟨fun _ => k_12_81, fun q => absurd q (by decide)⟩⟩
theorem cl_13_675 : CallOk 53923 (298, (1, true)) := ⟨(show xM "RightsHouseModel" 675 Y_M_other 1 from ⟨k_12_67, k_1_12, k_12_69, by decide, by decide, by decide +kernel⟩), ⟨fun _ => k_12_68, fun q => absurd q (by decide)⟩⟩
theorem cl_13_678 : CallOk 53926 (296, (2, true)) := ⟨(show xM "RightsHouseModel" 678 Y_M_times 2 from ⟨k_12_83, k_1_12, k_12_85, by decide, by decide, by decide +kernel⟩), ⟨fun _ => k_12_84, fun q => absurd q (by decide)⟩⟩
theorem cl_13_681 : CallOk 53929 (300, (2, true)) := ⟨(show xM "RightsHouseModel" 681 Y_M_left 2 from ⟨k_12_88, k_1_12, k_12_90, by decide, by decide, by decide +kernel⟩), ⟨fun _ => k_12_89, fun q => absurd q (by decide)⟩⟩
theorem cl_13_684 : CallOk 53932 (380, (1, false)) := ⟨(show xM "RightsHouseModel" 684 Y_M_pushAt 1 from ⟨k_12_62, k_1_12, k_12_65, by decide, by decide, by decide +kernel⟩), ⟨fun q => absurd q (by decide), fun _ => ⟨⟨k_12_64, (tb_s (q := (⟨"RightsHouseModel", "pushAt", "(I)V"⟩, 151)) (by decide +kernel))⟩, fun fr lo nl t q h => by
  have e : t_room.get 380 = some (3, (87, (5, (0, 110)))) := by decide +kernel
  rw [e] at h
  cases h
  exact Or.inl ⟨by decide, 11, _, rfl, by decide, rfl⟩⟩⟩⟩
theorem cl_13_687 : CallOk 53935 (383, (2, false)) := ⟨(show xM "RightsHouseModel" 687 Y_M_pushOf 2 from ⟨k_12_70, k_1_12, k_12_73, by decide, by decide, by decide +kernel⟩), ⟨fun q => absurd q (by decide), fun _ => ⟨⟨k_12_72, (tb_s (q := (⟨"RightsHouseModel", "pushOf", "(II)V"⟩, 151)) (by decide +kernel))⟩, fun fr lo nl t q h => by
  have e : t_room.get 383 = some (5, (163, (10, (0, 110)))) := by decide +kernel
  rw [e] at h
  cases h
  exact Or.inl ⟨by decide, 11, _, rfl, by decide, rfl⟩⟩⟩⟩
theorem cl_13_690 : CallOk 53938 (381, (1, false)) := ⟨(show xM "RightsHouseModel" 690 Y_M_pushIn 1 from ⟨k_12_91, k_1_12, k_12_94, by decide, by decide, by decide +kernel⟩), ⟨fun q => absurd q (by decide), fun _ => ⟨⟨k_12_93, (tb_s (q := (⟨"RightsHouseModel", "pushIn", "(I)V"⟩, 151)) (by decide +kernel))⟩, fun fr lo nl t q h => by
  have e : t_room.get 381 = some (2, (63, (7, (0, 110)))) := by decide +kernel
  rw [e] at h
  cases h
  exact Or.inl ⟨by decide, 11, _, rfl, by decide, rfl⟩⟩⟩⟩
theorem cl_13_693 : CallOk 53941 (384, (1, false)) := ⟨(show xM "RightsHouseModel" 693 Y_M_pushJoined 1 from ⟨k_12_95, k_1_12, k_12_98, by decide, by decide, by decide +kernel⟩), ⟨fun q => absurd q (by decide), fun _ => ⟨⟨k_12_97, (tb_s (q := (⟨"RightsHouseModel", "pushJoined", "(Z)V"⟩, 151)) (by decide +kernel))⟩, fun fr lo nl t q h => by
  have e : t_room.get 384 = some (2, (63, (4, (0, 110)))) := by decide +kernel
  rw [e] at h
  cases h
  exact Or.inl ⟨by decide, 11, _, rfl, by decide, rfl⟩⟩⟩⟩
theorem cl_13_697 : CallOk 53945 (385, (5, false)) := ⟨(show xM "RightsHouseModel" 697 Y_M_evaluate 5 from ⟨k_12_49, k_1_12, k_12_52, by decide, by decide, by decide +kernel⟩), ⟨fun q => absurd q (by decide), fun _ => ⟨⟨k_12_51, (tb_s (q := (⟨"RightsHouseModel", "evaluate", "(IIIII)V"⟩, 151)) (by decide +kernel))⟩, fun fr lo nl t q h => by
  have e : t_room.get 385 = some (6, (192, (10, (0, 110)))) := by decide +kernel
  rw [e] at h
  cases h
  exact Or.inl ⟨by decide, 11, _, rfl, by decide, rfl⟩⟩⟩⟩
theorem cl_13_713 : CallOk 53961 (386, (5, false)) := ⟨(show xM "RightsHouseModel" 713 Y_M_says 5 from ⟨k_12_45, k_1_12, k_12_48, by decide, by decide, by decide +kernel⟩), ⟨fun q => absurd q (by decide), fun _ => ⟨⟨k_12_47, (tb_s (q := (⟨"RightsHouseModel", "says", "(IIIII)I"⟩, 151)) (by decide +kernel))⟩, fun fr lo nl t q h => by
  have e : t_room.get 386 = some (7, (221, (7, (1, 110)))) := by decide +kernel
  rw [e] at h
  cases h
  exact Or.inl ⟨by decide, 11, _, rfl, by decide, rfl⟩⟩⟩⟩
theorem cl_13_717 : CallOk 53965 (387, (3, false)) := ⟨(show xM "RightsHouseModel" 717 Y_M_placeOf 3 from ⟨k_12_99, k_1_12, k_12_102, by decide, by decide, by decide +kernel⟩), ⟨fun q => absurd q (by decide), fun _ => ⟨⟨k_12_101, (tb_s (q := (⟨"RightsHouseModel", "placeOf", "(III)I"⟩, 151)) (by decide +kernel))⟩, fun fr lo nl t q h => by
  have e : t_room.get 387 = some (2, (63, (6, (1, 110)))) := by decide +kernel
  rw [e] at h
  cases h
  exact Or.inl ⟨by decide, 11, _, rfl, by decide, rfl⟩⟩⟩⟩
theorem cl_13_727 : CallOk 53975 (307, (5, false)) := ⟨(show xM "RightsHouseModel" 727 Y_M_log 5 from ⟨k_12_29, k_1_12, k_12_32, by decide, by decide, by decide +kernel⟩), ⟨fun q => absurd q (by decide), fun _ => ⟨⟨k_12_31, (tb_s (q := (⟨"RightsHouseModel", "log", "(IIIII)V"⟩, 151)) (by decide +kernel))⟩, fun fr lo nl t q h => by
  have e : t_room.get 307 = some (3, (86, (6, (0, 110)))) := by decide +kernel
  rw [e] at h
  cases h
  exact Or.inl ⟨by decide, 11, _, rfl, by decide, rfl⟩⟩⟩⟩
theorem cl_13_730 : CallOk 53978 (390, (1, false)) := ⟨(show xM "RightsHouseModel" 730 Y_M_forceAt 1 from ⟨k_12_37, k_1_12, k_12_40, by decide, by decide, by decide +kernel⟩), ⟨fun q => absurd q (by decide), fun _ => ⟨⟨k_12_39, (tb_s (q := (⟨"RightsHouseModel", "forceAt", "(I)I"⟩, 151)) (by decide +kernel))⟩, fun fr lo nl t q h => by
  have e : t_room.get 390 = some (1, (40, (4, (1, 110)))) := by decide +kernel
  rw [e] at h
  cases h
  exact Or.inl ⟨by decide, 11, _, rfl, by decide, rfl⟩⟩⟩⟩
theorem cl_13_733 : CallOk 53981 (388, (5, false)) := ⟨(show xM "RightsHouseModel" 733 Y_M_judge 5 from ⟨k_12_41, k_1_12, k_12_44, by decide, by decide, by decide +kernel⟩), ⟨fun q => absurd q (by decide), fun _ => ⟨⟨k_12_43, (tb_s (q := (⟨"RightsHouseModel", "judge", "(IIIII)V"⟩, 151)) (by decide +kernel))⟩, fun fr lo nl t q h => by
  have e : t_room.get 388 = some (8, (247, (11, (0, 110)))) := by decide +kernel
  rw [e] at h
  cases h
  exact Or.inl ⟨by decide, 11, _, rfl, by decide, rfl⟩⟩⟩⟩
theorem cl_13_736 : CallOk 53984 (389, (1, false)) := ⟨(show xM "RightsHouseModel" 736 Y_M_keeps 1 from ⟨k_12_103, k_1_12, k_12_106, by decide, by decide, by decide +kernel⟩), ⟨fun q => absurd q (by decide), fun _ => ⟨⟨k_12_105, (tb_s (q := (⟨"RightsHouseModel", "keeps", "(I)I"⟩, 151)) (by decide +kernel))⟩, fun fr lo nl t q h => by
  have e : t_room.get 389 = some (1, (40, (2, (1, 110)))) := by decide +kernel
  rw [e] at h
  cases h
  exact Or.inl ⟨by decide, 11, _, rfl, by decide, rfl⟩⟩⟩⟩
theorem cl_13_739 : CallOk 53987 (396, (5, false)) := ⟨(show xM "RightsHouseModel" 739 Y_M_whoAt 5 from ⟨k_12_123, k_1_12, k_12_126, by decide, by decide, by decide +kernel⟩), ⟨fun q => absurd q (by decide), fun _ => ⟨⟨k_12_125, (tb_s (q := (⟨"RightsHouseModel", "whoAt", "(IIIII)I"⟩, 151)) (by decide +kernel))⟩, fun fr lo nl t q h => by
  have e : t_room.get 396 = some (9, (277, (8, (1, 110)))) := by decide +kernel
  rw [e] at h
  cases h
  exact Or.inl ⟨by decide, 11, _, rfl, by decide, rfl⟩⟩⟩⟩
theorem cl_13_756 : CallOk 54004 (319, (2, false)) := ⟨(show xM "RightsHouseModel" 756 Y_M_isIn 2 from ⟨k_12_156, k_1_12, k_12_159, by decide, by decide, by decide +kernel⟩), ⟨fun q => absurd q (by decide), fun _ => ⟨⟨k_12_158, (tb_s (q := (⟨"RightsHouseModel", "isIn", "(II)Z"⟩, 151)) (by decide +kernel))⟩, fun fr lo nl t q h => by
  have e : t_room.get 319 = some (4, (111, (3, (2, 110)))) := by decide +kernel
  rw [e] at h
  cases h
  exact Or.inl ⟨by decide, 11, _, rfl, by decide, rfl⟩⟩⟩⟩
theorem cl_13_759 : CallOk 54007 (404, (2, false)) := ⟨(show xM "RightsHouseModel" 759 Y_M_giverLaw 2 from ⟨k_12_152, k_1_12, k_12_155, by decide, by decide, by decide +kernel⟩), ⟨fun q => absurd q (by decide), fun _ => ⟨⟨k_12_154, (tb_s (q := (⟨"RightsHouseModel", "giverLaw", "(II)I"⟩, 151)) (by decide +kernel))⟩, fun fr lo nl t q h => by
  have e : t_room.get 404 = some (5, (133, (5, (1, 110)))) := by decide +kernel
  rw [e] at h
  cases h
  exact Or.inl ⟨by decide, 11, _, rfl, by decide, rfl⟩⟩⟩⟩
theorem cl_13_762 : CallOk 54010 (403, (1, false)) := ⟨(show xM "RightsHouseModel" 762 Y_M_keepsLaw 1 from ⟨k_12_160, k_1_12, k_12_163, by decide, by decide, by decide +kernel⟩), ⟨fun q => absurd q (by decide), fun _ => ⟨⟨k_12_162, (tb_s (q := (⟨"RightsHouseModel", "keepsLaw", "(I)Z"⟩, 151)) (by decide +kernel))⟩, fun fr lo nl t q h => by
  have e : t_room.get 403 = some (4, (111, (7, (2, 110)))) := by decide +kernel
  rw [e] at h
  cases h
  exact Or.inl ⟨by decide, 11, _, rfl, by decide, rfl⟩⟩⟩⟩
theorem cl_13_768 : CallOk 54016 (414, (1, false)) := ⟨(show xM "RightsHouseModel" 768 Y_M_isWork 1 from ⟨k_12_200, k_1_12, k_12_203, by decide, by decide, by decide +kernel⟩), ⟨fun q => absurd q (by decide), fun _ => ⟨⟨k_12_202, (tb_s (q := (⟨"RightsHouseModel", "isWork", "(I)Z"⟩, 151)) (by decide +kernel))⟩, fun fr lo nl t q h => by
  have e : t_room.get 414 = some (2, (65, (2, (2, 110)))) := by decide +kernel
  rw [e] at h
  cases h
  exact Or.inl ⟨by decide, 11, _, rfl, by decide, rfl⟩⟩⟩⟩
theorem cl_13_771 : CallOk 54019 (415, (2, false)) := ⟨(show xM "RightsHouseModel" 771 Y_M_isStep 2 from ⟨k_12_208, k_1_12, k_12_211, by decide, by decide, by decide +kernel⟩), ⟨fun q => absurd q (by decide), fun _ => ⟨⟨k_12_210, (tb_s (q := (⟨"RightsHouseModel", "isStep", "(II)Z"⟩, 151)) (by decide +kernel))⟩, fun fr lo nl t q h => by
  have e : t_room.get 415 = some (3, (86, (3, (2, 110)))) := by decide +kernel
  rw [e] at h
  cases h
  exact Or.inl ⟨by decide, 11, _, rfl, by decide, rfl⟩⟩⟩⟩
theorem cl_13_777 : CallOk 54025 (418, (1, false)) := ⟨(show xM "RightsHouseModel" 777 Y_M_keepsTies 1 from ⟨k_12_225, k_1_12, k_12_228, by decide, by decide, by decide +kernel⟩), ⟨fun q => absurd q (by decide), fun _ => ⟨⟨k_12_227, (tb_s (q := (⟨"RightsHouseModel", "keepsTies", "(I)Z"⟩, 151)) (by decide +kernel))⟩, fun fr lo nl t q h => by
  have e : t_room.get 418 = some (1, (40, (8, (2, 110)))) := by decide +kernel
  rw [e] at h
  cases h
  exact Or.inl ⟨by decide, 11, _, rfl, by decide, rfl⟩⟩⟩⟩
theorem cl_13_782 : CallOk 54030 (420, (1, false)) := ⟨(show xM "RightsHouseModel" 782 Y_M_setDone 1 from ⟨k_12_217, k_1_12, k_12_220, by decide, by decide, by decide +kernel⟩), ⟨fun q => absurd q (by decide), fun _ => ⟨⟨k_12_219, (tb_s (q := (⟨"RightsHouseModel", "setDone", "(I)V"⟩, 151)) (by decide +kernel))⟩, fun fr lo nl t q h => by
  have e : t_room.get 420 = some (1, (40, (3, (0, 110)))) := by decide +kernel
  rw [e] at h
  cases h
  exact Or.inl ⟨by decide, 11, _, rfl, by decide, rfl⟩⟩⟩⟩
theorem cl_13_785 : CallOk 54033 (419, (3, false)) := ⟨(show xM "RightsHouseModel" 785 Y_M_searches 3 from ⟨k_12_221, k_1_12, k_12_224, by decide, by decide, by decide +kernel⟩), ⟨fun q => absurd q (by decide), fun _ => ⟨⟨k_12_223, (tb_s (q := (⟨"RightsHouseModel", "searches", "(III)I"⟩, 151)) (by decide +kernel))⟩, fun fr lo nl t q h => by
  have e : t_room.get 419 = some (5, (133, (11, (1, 110)))) := by decide +kernel
  rw [e] at h
  cases h
  exact Or.inl ⟨by decide, 11, _, rfl, by decide, rfl⟩⟩⟩⟩
theorem cl_13_788 : CallOk 54036 (423, (4, false)) := ⟨(show xM "RightsHouseModel" 788 Y_M_nextOf 4 from ⟨k_12_237, k_1_12, k_13_0, by decide, by decide, by decide +kernel⟩), ⟨fun q => absurd q (by decide), fun _ => ⟨⟨k_12_239, (tb_s (q := (⟨"RightsHouseModel", "nextOf", "(IIII)I"⟩, 151)) (by decide +kernel))⟩, fun fr lo nl t q h => by
  have e : t_room.get 423 = some (6, (163, (5, (1, 110)))) := by decide +kernel
  rw [e] at h
  cases h
  exact Or.inl ⟨by decide, 11, _, rfl, by decide, rfl⟩⟩⟩⟩
theorem cl_13_794 : CallOk 54042 (428, (5, false)) := ⟨(show xM "RightsHouseModel" 794 Y_M_fits 5 from ⟨k_13_26, k_1_12, k_13_29, by decide, by decide, by decide +kernel⟩), ⟨fun q => absurd q (by decide), fun _ => ⟨⟨k_13_28, (tb_s (q := (⟨"RightsHouseModel", "fits", "(IIIII)Z"⟩, 151)) (by decide +kernel))⟩, fun fr lo nl t q h => by
  have e : t_room.get 428 = some (4, (108, (6, (2, 110)))) := by decide +kernel
  rw [e] at h
  cases h
  exact Or.inl ⟨by decide, 11, _, rfl, by decide, rfl⟩⟩⟩⟩
theorem cl_13_797 : CallOk 54045 (429, (1, false)) := ⟨(show xM "RightsHouseModel" 797 Y_M_lookAt 1 from ⟨k_13_22, k_1_12, k_13_25, by decide, by decide, by decide +kernel⟩), ⟨fun q => absurd q (by decide), fun _ => ⟨⟨k_13_24, (tb_s (q := (⟨"RightsHouseModel", "lookAt", "(I)V"⟩, 151)) (by decide +kernel))⟩, fun fr lo nl t q h => by
  have e : t_room.get 429 = some (5, (133, (7, (0, 110)))) := by decide +kernel
  rw [e] at h
  cases h
  exact Or.inl ⟨by decide, 11, _, rfl, by decide, rfl⟩⟩⟩⟩
theorem cl_13_808 : CallOk 54056 (430, (5, false)) := ⟨(show xM "RightsHouseModel" 808 Y_M_isStanding 5 from ⟨k_13_18, k_1_12, k_13_21, by decide, by decide, by decide +kernel⟩), ⟨fun q => absurd q (by decide), fun _ => ⟨⟨k_13_20, (tb_s (q := (⟨"RightsHouseModel", "isStanding", "(IIIII)Z"⟩, 151)) (by decide +kernel))⟩, fun fr lo nl t q h => by
  have e : t_room.get 430 = some (6, (159, (11, (2, 110)))) := by decide +kernel
  rw [e] at h
  cases h
  exact Or.inl ⟨by decide, 11, _, rfl, by decide, rfl⟩⟩⟩⟩
theorem cl_13_811 : CallOk 54059 (431, (0, false)) := ⟨(show xM "RightsHouseModel" 811 Y_M_keepChain 0 from ⟨k_13_38, k_1_12, k_13_41, by decide, by decide, by decide +kernel⟩), ⟨fun q => absurd q (by decide), fun _ => ⟨⟨k_13_40, (tb_s (q := (⟨"RightsHouseModel", "keepChain", "()V"⟩, 151)) (by decide +kernel))⟩, fun fr lo nl t q h => by
  have e : t_room.get 431 = some (1, (40, (2, (0, 110)))) := by decide +kernel
  rw [e] at h
  cases h
  exact Or.inl ⟨by decide, 11, _, rfl, by decide, rfl⟩⟩⟩⟩
theorem cl_13_817 : CallOk 54065 (438, (3, false)) := ⟨(show xM "RightsHouseModel" 817 Y_M_gets 3 from ⟨k_13_68, k_1_12, k_13_71, by decide, by decide, by decide +kernel⟩), ⟨fun q => absurd q (by decide), fun _ => ⟨⟨k_13_70, (tb_s (q := (⟨"RightsHouseModel", "gets", "(III)V"⟩, 151)) (by decide +kernel))⟩, fun fr lo nl t q h => by
  have e : t_room.get 438 = some (1, (40, (5, (0, 110)))) := by decide +kernel
  rw [e] at h
  cases h
  exact Or.inl ⟨by decide, 11, _, rfl, by decide, rfl⟩⟩⟩⟩
theorem cl_13_824 : CallOk 54072 (439, (0, false)) := ⟨(show xM "RightsHouseModel" 824 Y_M_grow 0 from ⟨k_13_64, k_1_12, k_13_67, by decide, by decide, by decide +kernel⟩), ⟨fun q => absurd q (by decide), fun _ => ⟨⟨k_13_66, (tb_s (q := (⟨"RightsHouseModel", "grow", "()V"⟩, 151)) (by decide +kernel))⟩, fun fr lo nl t q h => by
  have e : t_room.get 439 = some (2, (64, (5, (0, 110)))) := by decide +kernel
  rw [e] at h
  cases h
  exact Or.inl ⟨by decide, 11, _, rfl, by decide, rfl⟩⟩⟩⟩
theorem cl_13_830 : CallOk 54078 (443, (0, false)) := ⟨(show xM "RightsHouseModel" 830 Y_M_labelled 0 from ⟨k_13_80, k_1_12, k_13_83, by decide, by decide, by decide +kernel⟩), ⟨fun q => absurd q (by decide), fun _ => ⟨⟨k_13_82, (tb_s (q := (⟨"RightsHouseModel", "labelled", "()V"⟩, 151)) (by decide +kernel))⟩, fun fr lo nl t q h => by
  have e : t_room.get 443 = some (1, (40, (2, (0, 110)))) := by decide +kernel
  rw [e] at h
  cases h
  exact Or.inl ⟨by decide, 11, _, rfl, by decide, rfl⟩⟩⟩⟩
theorem cl_13_840 : CallOk 54088 (445, (1, false)) := ⟨(show xM "RightsHouseModel" 840 Y_M_isBlock 1 from ⟨k_13_90, k_1_12, k_13_93, by decide, by decide, by decide +kernel⟩), ⟨fun q => absurd q (by decide), fun _ => ⟨⟨k_13_92, (tb_s (q := (⟨"RightsHouseModel", "isBlock", "(I)Z"⟩, 151)) (by decide +kernel))⟩, fun fr lo nl t q h => by
  have e : t_room.get 445 = some (1, (40, (2, (2, 110)))) := by decide +kernel
  rw [e] at h
  cases h
  exact Or.inl ⟨by decide, 11, _, rfl, by decide, rfl⟩⟩⟩⟩
theorem cl_13_843 : CallOk 54091 (446, (1, false)) := ⟨(show xM "RightsHouseModel" 843 Y_M_endOf 1 from ⟨k_13_94, k_1_12, k_13_97, by decide, by decide, by decide +kernel⟩), ⟨fun q => absurd q (by decide), fun _ => ⟨⟨k_13_96, (tb_s (q := (⟨"RightsHouseModel", "endOf", "(I)I"⟩, 151)) (by decide +kernel))⟩, fun fr lo nl t q h => by
  have e : t_room.get 446 = some (1, (40, (2, (1, 110)))) := by decide +kernel
  rw [e] at h
  cases h
  exact Or.inl ⟨by decide, 11, _, rfl, by decide, rfl⟩⟩⟩⟩
theorem cl_13_848 : CallOk 54096 (452, (1, false)) := ⟨(show xM "RightsHouseModel" 848 Y_M_cutEnd 1 from ⟨k_13_119, k_1_12, k_13_122, by decide, by decide, by decide +kernel⟩), ⟨fun q => absurd q (by decide), fun _ => ⟨⟨k_13_121, (tb_s (q := (⟨"RightsHouseModel", "cutEnd", "(I)I"⟩, 151)) (by decide +kernel))⟩, fun fr lo nl t q h => by
  have e : t_room.get 452 = some (2, (61, (2, (1, 110)))) := by decide +kernel
  rw [e] at h
  cases h
  exact Or.inl ⟨by decide, 11, _, rfl, by decide, rfl⟩⟩⟩⟩
theorem cl_13_854 : CallOk 54102 (457, (1, false)) := ⟨(show xM "RightsHouseModel" 854 Y_M_know 1 from ⟨k_13_152, k_1_12, k_13_155, by decide, by decide, by decide +kernel⟩), ⟨fun q => absurd q (by decide), fun _ => ⟨⟨k_13_154, (tb_s (q := (⟨"RightsHouseModel", "know", "(I)V"⟩, 151)) (by decide +kernel))⟩, fun fr lo nl t q h => by
  have e : t_room.get 457 = some (1, (40, (4, (0, 110)))) := by decide +kernel
  rw [e] at h
  cases h
  exact Or.inl ⟨by decide, 11, _, rfl, by decide, rfl⟩⟩⟩⟩
theorem cl_13_857 : CallOk 54105 (458, (0, false)) := ⟨(show xM "RightsHouseModel" 857 Y_M_gather 0 from ⟨k_13_148, k_1_12, k_13_151, by decide, by decide, by decide +kernel⟩), ⟨fun q => absurd q (by decide), fun _ => ⟨⟨k_13_150, (tb_s (q := (⟨"RightsHouseModel", "gather", "()V"⟩, 151)) (by decide +kernel))⟩, fun fr lo nl t q h => by
  have e : t_room.get 458 = some (2, (63, (4, (0, 110)))) := by decide +kernel
  rw [e] at h
  cases h
  exact Or.inl ⟨by decide, 11, _, rfl, by decide, rfl⟩⟩⟩⟩
theorem cl_13_864 : CallOk 54112 (460, (2, true)) := ⟨(show xM "RightsHouseModel" 864 Y_M_power 2 from ⟨k_13_165, k_1_12, k_13_167, by decide, by decide, by decide +kernel⟩), ⟨fun _ => k_13_166, fun q => absurd q (by decide)⟩⟩
theorem cl_13_867 : CallOk 54115 (461, (1, false)) := ⟨(show xM "RightsHouseModel" 867 Y_M_rankWith 1 from ⟨k_13_160, k_1_12, k_13_163, by decide, by decide, by decide +kernel⟩), ⟨fun q => absurd q (by decide), fun _ => ⟨⟨k_13_162, (tb_s (q := (⟨"RightsHouseModel", "rankWith", "(I)I"⟩, 151)) (by decide +kernel))⟩, fun fr lo nl t q h => by
  have e : t_room.get 461 = some (2, (69, (12, (1, 110)))) := by decide +kernel
  rw [e] at h
  cases h
  exact Or.inl ⟨by decide, 11, _, rfl, by decide, rfl⟩⟩⟩⟩
theorem cl_13_870 : CallOk 54118 (463, (1, false)) := ⟨(show xM "RightsHouseModel" 870 Y_M_added 1 from ⟨k_13_139, k_1_12, k_13_142, by decide, by decide, by decide +kernel⟩), ⟨fun q => absurd q (by decide), fun _ => ⟨⟨k_13_141, (tb_s (q := (⟨"RightsHouseModel", "added", "(I)J"⟩, 151)) (by decide +kernel))⟩, fun fr lo nl t q h => by
  have e : t_room.get 463 = some (1, (40, (5, (3, 110)))) := by decide +kernel
  rw [e] at h
  cases h
  exact Or.inl ⟨by decide, 11, _, rfl, by decide, rfl⟩⟩⟩⟩
theorem cl_13_876 : CallOk 54124 (459, (2, false)) := ⟨(show xM "RightsHouseModel" 876 Y_M_link 2 from ⟨k_13_144, k_1_12, k_13_147, by decide, by decide, by decide +kernel⟩), ⟨fun q => absurd q (by decide), fun _ => ⟨⟨k_13_146, (tb_s (q := (⟨"RightsHouseModel", "link", "(II)V"⟩, 151)) (by decide +kernel))⟩, fun fr lo nl t q h => by
  have e : t_room.get 459 = some (3, (86, (4, (0, 110)))) := by decide +kernel
  rw [e] at h
  cases h
  exact Or.inl ⟨by decide, 11, _, rfl, by decide, rfl⟩⟩⟩⟩
theorem cl_13_879 : CallOk 54127 (462, (0, false)) := ⟨(show xM "RightsHouseModel" 879 Y_M_tellsOne 0 from ⟨k_13_156, k_1_12, k_13_159, by decide, by decide, by decide +kernel⟩), ⟨fun q => absurd q (by decide), fun _ => ⟨⟨k_13_158, (tb_s (q := (⟨"RightsHouseModel", "tellsOne", "()Z"⟩, 151)) (by decide +kernel))⟩, fun fr lo nl t q h => by
  have e : t_room.get 462 = some (3, (100, (4, (2, 110)))) := by decide +kernel
  rw [e] at h
  cases h
  exact Or.inl ⟨by decide, 11, _, rfl, by decide, rfl⟩⟩⟩⟩
theorem cl_13_900 : CallOk 54148 (470, (3, false)) := ⟨(show xM "RightsHouseModel" 900 Y_M_begin 3 from ⟨k_13_196, k_1_12, k_13_199, by decide, by decide, by decide +kernel⟩), ⟨fun q => absurd q (by decide), fun _ => ⟨⟨k_13_198, (tb_s (q := (⟨"RightsHouseModel", "begin", "(III)V"⟩, 151)) (by decide +kernel))⟩, fun fr lo nl t q h => by
  have e : t_room.get 470 = some (1, (40, (4, (0, 110)))) := by decide +kernel
  rw [e] at h
  cases h
  exact Or.inl ⟨by decide, 11, _, rfl, by decide, rfl⟩⟩⟩⟩
theorem cl_13_903 : CallOk 54151 (471, (1, false)) := ⟨(show xM "RightsHouseModel" 903 Y_M_lacking 1 from ⟨k_13_200, k_1_12, k_13_203, by decide, by decide, by decide +kernel⟩), ⟨fun q => absurd q (by decide), fun _ => ⟨⟨k_13_202, (tb_s (q := (⟨"RightsHouseModel", "lacking", "(I)I"⟩, 151)) (by decide +kernel))⟩, fun fr lo nl t q h => by
  have e : t_room.get 471 = some (1, (40, (4, (1, 110)))) := by decide +kernel
  rw [e] at h
  cases h
  exact Or.inl ⟨by decide, 11, _, rfl, by decide, rfl⟩⟩⟩⟩
theorem cl_13_906 : CallOk 54154 (472, (2, false)) := ⟨(show xM "RightsHouseModel" 906 Y_M_isCaught 2 from ⟨k_13_204, k_1_12, k_13_207, by decide, by decide, by decide +kernel⟩), ⟨fun q => absurd q (by decide), fun _ => ⟨⟨k_13_206, (tb_s (q := (⟨"RightsHouseModel", "isCaught", "(II)Z"⟩, 151)) (by decide +kernel))⟩, fun fr lo nl t q h => by
  have e : t_room.get 472 = some (1, (40, (4, (2, 110)))) := by decide +kernel
  rw [e] at h
  cases h
  exact Or.inl ⟨by decide, 11, _, rfl, by decide, rfl⟩⟩⟩⟩
theorem cl_13_909 : CallOk 54157 (475, (1, false)) := ⟨(show xM "RightsHouseModel" 909 Y_M_fourAt 1 from ⟨k_13_216, k_1_12, k_13_219, by decide, by decide, by decide +kernel⟩), ⟨fun q => absurd q (by decide), fun _ => ⟨⟨k_13_218, (tb_s (q := (⟨"RightsHouseModel", "fourAt", "(I)J"⟩, 151)) (by decide +kernel))⟩, fun fr lo nl t q h => by
  have e : t_room.get 475 = some (1, (40, (2, (3, 110)))) := by decide +kernel
  rw [e] at h
  cases h
  exact Or.inl ⟨by decide, 11, _, rfl, by decide, rfl⟩⟩⟩⟩
theorem cl_15_335 : CallOk 61775 (65, (0, false)) := ⟨(show xM "java/lang/String" 335 Y_JS_coder 0 from ⟨k_4_170, k_1_15, k_4_173, by decide, by decide, by decide +kernel⟩), ⟨fun q => absurd q (by decide), fun _ => ⟨⟨k_4_171, k_4_172⟩, fun fr lo nl t q h => by
  have e : t_room.get 65 = some (1, (40, (1, (5, 1000)))) := by decide +kernel
  rw [e] at h
  cases h
  exact Or.inr ⟨rfl, rfl⟩⟩⟩⟩
theorem cl_15_492 : CallOk 61932 (64, (0, false)) := ⟨(show xM "java/lang/String" 492 Y_JS_isLatin1 0 from ⟨k_4_160, k_1_15, k_4_163, by decide, by decide, by decide +kernel⟩), ⟨fun q => absurd q (by decide), fun _ => ⟨⟨k_4_161, k_4_162⟩, fun fr lo nl t q h => by
  have e : t_room.get 64 = some (1, (40, (1, (2, 1000)))) := by decide +kernel
  rw [e] at h
  cases h
  exact Or.inr ⟨rfl, rfl⟩⟩⟩⟩
theorem cl_15_495 : CallOk 61935 (77, (2, true)) := ⟨(show xM "java/lang/String" 495 Y_JL_charAt 2 from ⟨k_5_19, k_1_16, k_5_21, by decide, by decide, by decide +kernel⟩), ⟨fun _ => k_5_20, fun q => absurd q (by decide)⟩⟩
theorem cl_15_505 : CallOk 61945 (66, (0, false)) := ⟨(show xM "java/lang/String" 505 Y_JS_length 0 from ⟨k_4_166, k_1_15, k_4_169, by decide, by decide, by decide +kernel⟩), ⟨fun q => absurd q (by decide), fun _ => ⟨⟨k_4_167, k_4_168⟩, fun fr lo nl t q h => by
  have e : t_room.get 66 = some (2, (60, (1, (1, 1000)))) := by decide +kernel
  rw [e] at h
  cases h
  exact Or.inr ⟨rfl, rfl⟩⟩⟩⟩
theorem cl_15_633 : CallOk 62073 (70, (2, false)) := ⟨(show xM "java/lang/String" 633 Y_JS_indexOf_1 2 from ⟨k_4_156, k_1_15, k_4_159, by decide, by decide, by decide +kernel⟩), ⟨fun q => absurd q (by decide), fun _ => ⟨⟨k_4_157, k_4_158⟩, fun fr lo nl t q h => by
  have e : t_room.get 70 = some (3, (88, (3, (1, 1000)))) := by decide +kernel
  rw [e] at h
  cases h
  exact Or.inr ⟨rfl, rfl⟩⟩⟩⟩
theorem cl_15_637 : CallOk 62077 (69, (4, true)) := ⟨(show xM "java/lang/String" 637 Y_JL_indexOf 4 from ⟨k_4_174, k_1_16, k_4_176, by decide, by decide, by decide +kernel⟩), ⟨fun _ => k_4_175, fun q => absurd q (by decide)⟩⟩
theorem cl_16_9 : CallOk 65545 (76, (2, true)) := ⟨(show xM "java/lang/StringLatin1" 9 Y_JS_checkIndex 2 from ⟨k_5_22, k_1_15, k_5_24, by decide, by decide, by decide +kernel⟩), ⟨fun _ => k_5_23, fun q => absurd q (by decide)⟩⟩
theorem cl_16_88 : CallOk 65624 (67, (1, true)) := ⟨(show xM "java/lang/StringLatin1" 88 Y_JL_canEncode 1 from ⟨k_4_177, k_1_16, k_4_179, by decide, by decide, by decide +kernel⟩), ⟨fun _ => k_4_178, fun q => absurd q (by decide)⟩⟩
theorem cl_16_95 : CallOk 65631 (68, (4, true)) := ⟨(show xM "java/lang/StringLatin1" 95 Y_JL_indexOfChar 4 from ⟨k_4_186, k_1_16, k_4_188, by decide, by decide, by decide +kernel⟩), ⟨fun _ => k_4_187, fun q => absurd q (by decide)⟩⟩
theorem call_ok : t_call.AllP CallOk := ⟨⟨cl_1_115, cl_1_119, cl_1_122, cl_1_125, cl_1_132, cl_1_136, cl_1_139, cl_1_142, cl_1_146, cl_1_149, cl_1_156, cl_1_160, cl_1_163, cl_1_166, cl_1_169, cl_1_179, cl_1_195, cl_1_207, trivial⟩, ⟨cl_1_210, cl_1_220, cl_1_229, cl_1_233, cl_1_236, cl_1_239, cl_1_243, cl_1_248, cl_1_258, cl_1_262, cl_1_265, cl_1_268, cl_1_271, cl_1_274, cl_1_284, cl_1_287, cl_1_294, cl_1_303, trivial⟩, ⟨cl_1_309, cl_1_312, cl_1_315, cl_1_318, cl_1_324, cl_1_330, cl_1_333, cl_1_342, cl_1_350, cl_1_356, cl_1_359, cl_1_362, cl_1_365, cl_1_368, cl_1_377, cl_1_380, cl_1_383, cl_1_389, trivial⟩, ⟨cl_1_393, cl_1_399, cl_1_405, cl_1_414, cl_1_417, cl_1_420, cl_1_423, cl_1_426, cl_1_436, cl_1_439, cl_1_445, cl_1_448, cl_1_451, cl_1_457, cl_1_472, cl_1_475, cl_1_478, cl_1_490, trivial⟩, ⟨cl_1_495, cl_1_498, cl_1_501, cl_1_504, cl_1_507, cl_1_513, cl_1_519, cl_1_522, cl_1_528, cl_1_531, cl_1_537, cl_1_542, cl_1_546, cl_1_551, cl_1_559, cl_1_562, cl_2_42, cl_2_46, trivial⟩, ⟨cl_2_53, cl_2_57, cl_2_60, cl_2_66, cl_2_70, cl_2_73, cl_2_77, cl_3_46, cl_3_60, cl_3_64, cl_3_68, cl_3_71, cl_3_75, cl_3_78, cl_4_38, cl_4_42, cl_4_53, cl_4_57, trivial⟩, ⟨cl_4_61, cl_5_57, cl_5_79, cl_5_83, cl_5_89, cl_5_98, cl_5_107, cl_5_111, cl_5_115, cl_5_118, cl_5_124, cl_5_127, cl_5_139, cl_5_145, cl_5_149, cl_5_153, cl_5_156, cl_5_159, trivial⟩, ⟨cl_5_162, cl_5_173, cl_5_176, cl_5_179, cl_5_183, cl_5_193, cl_5_196, cl_5_202, cl_5_208, cl_5_212, cl_5_215, cl_5_219, cl_5_222, cl_5_225, cl_5_228, cl_5_231, cl_5_237, cl_5_240, trivial⟩, ⟨cl_5_243, cl_5_249, cl_5_255, cl_5_258, cl_5_268, cl_6_39, cl_6_48, cl_6_52, cl_6_56, cl_6_69, cl_6_72, cl_6_76, cl_7_60, cl_7_72, cl_7_76, cl_7_83, cl_7_89, cl_7_93, trivial⟩, ⟨cl_7_97, cl_7_100, cl_7_103, cl_7_106, cl_7_111, cl_7_120, cl_7_126, cl_7_130, cl_7_133, cl_7_137, cl_7_140, cl_7_144, cl_7_147, cl_7_150, cl_7_153, cl_7_158, cl_7_162, cl_7_175, trivial⟩, ⟨cl_7_187, cl_7_192, cl_7_199, cl_7_203, cl_7_206, cl_7_211, cl_7_215, cl_7_219, cl_7_228, cl_7_231, cl_7_234, cl_7_237, cl_7_242, cl_7_245, cl_7_248, cl_7_251, cl_7_260, cl_8_13, trivial⟩, ⟨cl_8_31, cl_8_35, cl_8_38, cl_8_42, cl_8_46, cl_8_49, cl_8_56, cl_9_46, cl_9_50, cl_9_53, cl_9_57, cl_9_66, cl_9_70, cl_9_74, cl_10_35, cl_11_34, cl_11_38, cl_11_44, trivial⟩, ⟨cl_11_47, cl_11_51, cl_11_55, cl_11_59, cl_11_63, cl_12_55, cl_12_65, cl_12_69, cl_12_73, cl_12_82, cl_13_333, cl_13_349, cl_13_353, cl_13_357, cl_13_361, cl_13_367, cl_13_371, cl_13_374, trivial⟩, ⟨cl_13_381, cl_13_387, cl_13_409, cl_13_416, cl_13_432, cl_13_436, cl_13_440, cl_13_444, cl_13_448, cl_13_451, cl_13_454, cl_13_458, cl_13_463, cl_13_476, cl_13_479, cl_13_484, cl_13_488, cl_13_492, trivial⟩, ⟨cl_13_495, cl_13_501, cl_13_514, cl_13_517, cl_13_522, cl_13_525, cl_13_533, cl_13_536, cl_13_552, cl_13_562, cl_13_566, cl_13_569, cl_13_579, cl_13_588, cl_13_592, cl_13_595, cl_13_598, cl_13_601, trivial⟩, ⟨cl_13_604, cl_13_607, cl_13_610, cl_13_613, cl_13_616, cl_13_619, cl_13_622, cl_13_625, cl_13_628, cl_13_631, cl_13_634, cl_13_637, cl_13_640, cl_13_643, cl_13_649, cl_13_652, cl_13_658, cl_13_663, trivial⟩, ⟨cl_13_666, cl_13_669, cl_13_672, cl_13_675, cl_13_678, cl_13_681, cl_13_684, cl_13_687, cl_13_690, cl_13_693, cl_13_697, cl_13_713, cl_13_717, cl_13_727, cl_13_730, cl_13_733, cl_13_736, cl_13_739, trivial⟩, ⟨cl_13_756, cl_13_759, cl_13_762, cl_13_768, cl_13_771, cl_13_777, cl_13_782, cl_13_785, cl_13_788, cl_13_794, cl_13_797, cl_13_808, cl_13_811, cl_13_817, cl_13_824, cl_13_830, cl_13_840, cl_13_843, trivial⟩, ⟨cl_13_848, cl_13_854, cl_13_857, cl_13_864, cl_13_867, cl_13_870, cl_13_876, cl_13_879, cl_13_900, cl_13_903, cl_13_906, cl_13_909, cl_15_335, cl_15_492, cl_15_495, cl_15_505, cl_15_633, cl_15_637, trivial⟩, ⟨cl_16_9, cl_16_88, cl_16_95, trivial⟩, trivial⟩
theorem lib_ok : t_lib.AllP (fun x n => n = 1 → (Cond.methodLink (cname (x / 4096)) (x % 4096) arraycopyName ∈ TBg ∧ Cond.native arraycopyName ∈ TBg) ∧ Cond.static arraycopyName ∈ TBg ∧ Cond.initialized "java/lang/System" ∈ TBg) := ⟨⟨fun _ => ⟨⟨k_4_15, k_4_17⟩, k_4_16, k_1_14⟩, fun _ => ⟨⟨k_6_72, k_4_17⟩, k_4_16, k_1_14⟩, fun q => absurd q (by decide), fun q => absurd q (by decide), fun _ => ⟨⟨k_4_89, k_4_17⟩, k_4_16, k_1_14⟩, trivial⟩, ⟨fun q => absurd q (by decide), fun q => absurd q (by decide), fun q => absurd q (by decide), fun q => absurd q (by decide), fun q => absurd q (by decide), trivial⟩, ⟨fun q => absurd q (by decide), fun q => absurd q (by decide), fun q => absurd q (by decide), fun q => absurd q (by decide), fun q => absurd q (by decide), trivial⟩, ⟨fun q => absurd q (by decide), fun q => absurd q (by decide), fun q => absurd q (by decide), fun q => absurd q (by decide), fun q => absurd q (by decide), trivial⟩, ⟨fun q => absurd q (by decide), fun q => absurd q (by decide), fun q => absurd q (by decide), fun q => absurd q (by decide), fun q => absurd q (by decide), trivial⟩, ⟨fun q => absurd q (by decide), fun q => absurd q (by decide), fun q => absurd q (by decide), fun q => absurd q (by decide), fun q => absurd q (by decide), trivial⟩, ⟨fun q => absurd q (by decide), fun q => absurd q (by decide), fun q => absurd q (by decide), trivial⟩, trivial⟩
theorem str_ok : t_lib.AllP (fun x n => 10 ≤ n → ∃ q, STR[n - 10]? = some q ∧ cname (x / 4096) = q.1 ∧ q.2.1 = x % 4096) := ⟨⟨fun q => absurd q (by decide), fun q => absurd q (by decide), fun q => absurd q (by decide), fun q => absurd q (by decide), fun q => absurd q (by decide), trivial⟩, ⟨fun _ => ⟨_, rfl, rfl, rfl⟩, fun _ => ⟨_, rfl, rfl, rfl⟩, fun _ => ⟨_, rfl, rfl, rfl⟩, fun _ => ⟨_, rfl, rfl, rfl⟩, fun _ => ⟨_, rfl, rfl, rfl⟩, trivial⟩, ⟨fun _ => ⟨_, rfl, rfl, rfl⟩, fun q => absurd q (by decide), fun _ => ⟨_, rfl, rfl, rfl⟩, fun _ => ⟨_, rfl, rfl, rfl⟩, fun _ => ⟨_, rfl, rfl, rfl⟩, trivial⟩, ⟨fun _ => ⟨_, rfl, rfl, rfl⟩, fun _ => ⟨_, rfl, rfl, rfl⟩, fun _ => ⟨_, rfl, rfl, rfl⟩, fun _ => ⟨_, rfl, rfl, rfl⟩, fun _ => ⟨_, rfl, rfl, rfl⟩, trivial⟩, ⟨fun _ => ⟨_, rfl, rfl, rfl⟩, fun _ => ⟨_, rfl, rfl, rfl⟩, fun _ => ⟨_, rfl, rfl, rfl⟩, fun _ => ⟨_, rfl, rfl, rfl⟩, fun _ => ⟨_, rfl, rfl, rfl⟩, trivial⟩, ⟨fun _ => ⟨_, rfl, rfl, rfl⟩, fun _ => ⟨_, rfl, rfl, rfl⟩, fun q => absurd q (by decide), fun q => absurd q (by decide), fun q => absurd q (by decide), trivial⟩, ⟨fun q => absurd q (by decide), fun q => absurd q (by decide), fun q => absurd q (by decide), trivial⟩, trivial⟩
theorem fz_ok : t_lib.AllP (fun x n => (n = 2 → Cond.fieldLink (cname (x / 4096)) (x % 4096) "java/lang/String" "COMPACT_STRINGS" "Z" ∈ TBg) ∧ (n = 3 → Cond.fieldLink (cname (x / 4096)) (x % 4096) "RightsHouse$Judge" "RANK" "[I" ∈ TBg) ∧ (n = 4 → Cond.fieldLink (cname (x / 4096)) (x % 4096) "java/lang/String" "coder" "B" ∈ TBg) ∧ (n = 5 → Cond.fieldLink (cname (x / 4096)) (x % 4096) "java/lang/String" "value" "[B" ∈ TBg) ∧ (n = 6 → Cond.methodLink (cname (x / 4096)) (x % 4096) Lib.Math.max.name ∈ TBg ∧ Cond.static Lib.Math.max.name ∈ TBg ∧ Cond.initialized "java/lang/Math" ∈ TBg ∧ Cond.code Lib.Math.max.name Lib.Math.max.code 2 (some .int) ∈ TBg) ∧ (n = 7 → Cond.methodLink (cname (x / 4096)) (x % 4096) Lib.Math.min.name ∈ TBg ∧ Cond.static Lib.Math.min.name ∈ TBg ∧ Cond.initialized "java/lang/Math" ∈ TBg ∧ Cond.code Lib.Math.min.name Lib.Math.min.code 2 (some .int) ∈ TBg)) := ⟨⟨⟨fun q => absurd q (by decide), fun q => absurd q (by decide), fun q => absurd q (by decide), fun q => absurd q (by decide), fun q => absurd q (by decide), fun q => absurd q (by decide)⟩, ⟨fun q => absurd q (by decide), fun q => absurd q (by decide), fun q => absurd q (by decide), fun q => absurd q (by decide), fun q => absurd q (by decide), fun q => absurd q (by decide)⟩, ⟨fun q => absurd q (by decide), fun _ => k_6_70, fun q => absurd q (by decide), fun q => absurd q (by decide), fun q => absurd q (by decide), fun q => absurd q (by decide)⟩, ⟨fun q => absurd q (by decide), fun q => absurd q (by decide), fun q => absurd q (by decide), fun q => absurd q (by decide), fun _ => ⟨k_5_224, k_4_181, k_1_17, k_4_182⟩, fun q => absurd q (by decide)⟩, ⟨fun q => absurd q (by decide), fun q => absurd q (by decide), fun q => absurd q (by decide), fun q => absurd q (by decide), fun q => absurd q (by decide), fun q => absurd q (by decide)⟩, trivial⟩, ⟨⟨fun q => absurd q (by decide), fun q => absurd q (by decide), fun q => absurd q (by decide), fun q => absurd q (by decide), fun q => absurd q (by decide), fun q => absurd q (by decide)⟩, ⟨fun q => absurd q (by decide), fun q => absurd q (by decide), fun q => absurd q (by decide), fun q => absurd q (by decide), fun q => absurd q (by decide), fun q => absurd q (by decide)⟩, ⟨fun q => absurd q (by decide), fun q => absurd q (by decide), fun q => absurd q (by decide), fun q => absurd q (by decide), fun q => absurd q (by decide), fun q => absurd q (by decide)⟩, ⟨fun q => absurd q (by decide), fun q => absurd q (by decide), fun q => absurd q (by decide), fun q => absurd q (by decide), fun q => absurd q (by decide), fun q => absurd q (by decide)⟩, ⟨fun q => absurd q (by decide), fun q => absurd q (by decide), fun q => absurd q (by decide), fun q => absurd q (by decide), fun q => absurd q (by decide), fun q => absurd q (by decide)⟩, trivial⟩, ⟨⟨fun q => absurd q (by decide), fun q => absurd q (by decide), fun q => absurd q (by decide), fun q => absurd q (by decide), fun q => absurd q (by decide), fun q => absurd q (by decide)⟩, ⟨fun q => absurd q (by decide), fun q => absurd q (by decide), fun q => absurd q (by decide), fun q => absurd q (by decide), fun _ => ⟨k_5_49, k_4_181, k_1_17, k_4_182⟩, fun q => absurd q (by decide)⟩, ⟨fun q => absurd q (by decide), fun q => absurd q (by decide), fun q => absurd q (by decide), fun q => absurd q (by decide), fun q => absurd q (by decide), fun q => absurd q (by decide)⟩, ⟨fun q => absurd q (by decide), fun q => absurd q (by decide), fun q => absurd q (by decide), fun q => absurd q (by decide), fun q => absurd q (by decide), fun q => absurd q (by decide)⟩, ⟨fun q => absurd q (by decide), fun q => absurd q (by decide), fun q => absurd q (by decide), fun q => absurd q (by decide), fun q => absurd q (by decide), fun q => absurd q (by decide)⟩, trivial⟩, ⟨⟨fun q => absurd q (by decide), fun q => absurd q (by decide), fun q => absurd q (by decide), fun q => absurd q (by decide), fun q => absurd q (by decide), fun q => absurd q (by decide)⟩, ⟨fun q => absurd q (by decide), fun q => absurd q (by decide), fun q => absurd q (by decide), fun q => absurd q (by decide), fun q => absurd q (by decide), fun q => absurd q (by decide)⟩, ⟨fun q => absurd q (by decide), fun q => absurd q (by decide), fun q => absurd q (by decide), fun q => absurd q (by decide), fun q => absurd q (by decide), fun q => absurd q (by decide)⟩, ⟨fun q => absurd q (by decide), fun q => absurd q (by decide), fun q => absurd q (by decide), fun q => absurd q (by decide), fun q => absurd q (by decide), fun q => absurd q (by decide)⟩, ⟨fun q => absurd q (by decide), fun q => absurd q (by decide), fun q => absurd q (by decide), fun q => absurd q (by decide), fun q => absurd q (by decide), fun q => absurd q (by decide)⟩, trivial⟩, ⟨⟨fun q => absurd q (by decide), fun q => absurd q (by decide), fun q => absurd q (by decide), fun q => absurd q (by decide), fun q => absurd q (by decide), fun q => absurd q (by decide)⟩, ⟨fun q => absurd q (by decide), fun q => absurd q (by decide), fun q => absurd q (by decide), fun q => absurd q (by decide), fun q => absurd q (by decide), fun q => absurd q (by decide)⟩, ⟨fun q => absurd q (by decide), fun q => absurd q (by decide), fun q => absurd q (by decide), fun q => absurd q (by decide), fun q => absurd q (by decide), fun q => absurd q (by decide)⟩, ⟨fun q => absurd q (by decide), fun q => absurd q (by decide), fun q => absurd q (by decide), fun q => absurd q (by decide), fun q => absurd q (by decide), fun q => absurd q (by decide)⟩, ⟨fun q => absurd q (by decide), fun q => absurd q (by decide), fun q => absurd q (by decide), fun q => absurd q (by decide), fun q => absurd q (by decide), fun q => absurd q (by decide)⟩, trivial⟩, ⟨⟨fun q => absurd q (by decide), fun q => absurd q (by decide), fun q => absurd q (by decide), fun q => absurd q (by decide), fun q => absurd q (by decide), fun q => absurd q (by decide)⟩, ⟨fun q => absurd q (by decide), fun q => absurd q (by decide), fun q => absurd q (by decide), fun q => absurd q (by decide), fun q => absurd q (by decide), fun q => absurd q (by decide)⟩, ⟨fun q => absurd q (by decide), fun q => absurd q (by decide), fun q => absurd q (by decide), fun q => absurd q (by decide), fun q => absurd q (by decide), fun _ => ⟨k_7_11, k_4_184, k_1_17, k_4_185⟩⟩, ⟨fun q => absurd q (by decide), fun q => absurd q (by decide), fun q => absurd q (by decide), fun _ => k_13_226, fun q => absurd q (by decide), fun q => absurd q (by decide)⟩, ⟨fun q => absurd q (by decide), fun q => absurd q (by decide), fun _ => k_13_225, fun q => absurd q (by decide), fun q => absurd q (by decide), fun q => absurd q (by decide)⟩, trivial⟩, ⟨⟨fun _ => k_4_164, fun q => absurd q (by decide), fun q => absurd q (by decide), fun q => absurd q (by decide), fun q => absurd q (by decide), fun q => absurd q (by decide)⟩, ⟨fun q => absurd q (by decide), fun q => absurd q (by decide), fun q => absurd q (by decide), fun q => absurd q (by decide), fun q => absurd q (by decide), fun _ => ⟨k_4_183, k_4_184, k_1_17, k_4_185⟩⟩, ⟨fun q => absurd q (by decide), fun q => absurd q (by decide), fun q => absurd q (by decide), fun q => absurd q (by decide), fun _ => ⟨k_4_180, k_4_181, k_1_17, k_4_182⟩, fun q => absurd q (by decide)⟩, trivial⟩, trivial⟩
theorem ord_key {o x : Nat} (h : x < 4096) : (o * 4096 + x) / 4096 = o ∧ (o * 4096 + x) % 4096 = x := by omega
theorem kf_key {k j : Nat} (h : j < 1024) : (k * 1024 + j) / 1024 = k ∧ (k * 1024 + j) % 1024 = j := by omega
theorem rfIn_ok {k b n : Nat} : ∀ {z i : Nat}, rfIn k b n z = true → i < z → ∃ q, RF k i = q + 1 ∧ b ≤ q ∧ q < b + n
  | 0, i, _, h => by omega
  | z + 1, i, h, hi => by
    unfold rfIn at h
    simp only [Bool.and_eq_true] at h
    by_cases e : i = z
    · subst e
      have h1 := Nat.le_of_ble_eq_true h.1.1
      have h2 := Nat.le_of_ble_eq_true h.1.2
      exact ⟨RF k i - 1, by omega, by omega, by omega⟩
    · exact rfIn_ok h.2 (by omega)
/-- a method that is not in the table has no code -/
theorem own_ok {m : Nat} {e : Me} (h : MT.get m = some e) : MeOk m e := MT_ok.at h
theorem G_ok (P : Pl) (hk : Nat × (Nat × Nat) → Fm → Sy → Option Sy) (ct : BT Ct) (tr : Nat → Nat → Bool) : GxOk Yf (mkX P hk ct tr) := by
  have own0 : ∀ m : Nat, MT.get m = none → (mkX P hk ct tr).g.own m = 0 := fun m h => by
    show (match MT.get m with
      | some e => Me.own e
      | none => 0) = 0
    rw [h]
  have own1 : ∀ (m : Nat) (e : Me), MT.get m = some e → (mkX P hk ct tr).g.own m = e.own ∧ Yf m = e.y := fun m e h => by
    refine ⟨?_, ?_⟩
    · show (match MT.get m with
        | some e => Me.own e
        | none => 0) = e.own
      rw [h]
    · show (match MT.get m with
        | some e => Me.y e
        | none => Y_H_feed) = e.y
      rw [h]
  have cls1 : ∀ (m : Nat) (e : Me), MT.get m = some e → (Yf m).1.cls = cname ((mkX P hk ct tr).g.own m) := fun m e h => by rw [(own1 m e h).1, (own1 m e h).2]; exact (own_ok h).2.1
  have key0 : ∀ (x : Nat), x < 4096 → t_cst.get (0 * 4096 + x) = none ∧ t_cstl.get (0 * 4096 + x) = none ∧ t_fld.get (0 * 4096 + x) = none ∧ t_call.get (0 * 4096 + x) = none ∧ t_lib.get (0 * 4096 + x) = none := by
    intro x hx
    refine ⟨low_none low_cst (by omega), low_none low_cstl (by omega), low_none low_fld (by omega), low_none low_call (by omega), low_none low_lib (by omega)⟩
  refine ⟨⟨?_, ?_, ?_, ?_, ?_, ?_, ?_, ?_, ?_, ?_, ?_⟩, ?_, ?_⟩
  · intro m
    cases h : MT.get m with
    | none => simp only [Yf, h]; exact ⟨by decide, by decide⟩
    | some e =>
      rw [(own1 m e h).2]
      obtain ⟨-, -, h3, ⟨⟨h4, h5⟩, -⟩, -⟩ := own_ok h
      have hr := (BT.all_P room_big).at h3
      simp only [Bool.and_eq_true] at hr
      exact ⟨Nat.le_trans (Nat.le_of_ble_eq_true hr.1) h4, Nat.le_trans (Nat.le_of_ble_eq_true hr.2) h5⟩
  · intro m x hx hl
    cases h : MT.get m with
    | none => rw [own0 m h] at hl; have := (key0 x hx).2.2.2.2; rw [show (mkX P hk ct tr).g.lib = t_lib from rfl, this] at hl; cases hl
    | some e =>
      have := lib_ok.at hl rfl
      rw [(ord_key hx).1, (ord_key hx).2, ← cls1 m e h] at this
      exact this
  · intro m pc ix len hc
    cases h : MT.get m with
    | none =>
      have hc2 : BT.get (match MT.get m with
        | some e => Me.code e
        | none => []) pc = some (ix, len) := hc
      rw [h] at hc2
      cases hc2
    | some e =>
      rw [(own1 m e h).2]
      have hc' : BT.get e.code pc = some (ix, len) := by
        have hc2 : BT.get (match MT.get m with
          | some e => Me.code e
          | none => []) pc = some (ix, len) := hc
        rw [h] at hc2
        exact hc2
      have := (BT.all_P (own_ok h).1).at hc'
      simp only [Bool.and_eq_true, Bool.or_eq_true, decide_eq_true_eq] at this
      refine ⟨this.1, this.2.1, ?_⟩
      rcases this.2.2 with q | q
      · exact Or.inl (Nat.eq_of_beq_eq_true q)
      · exact Or.inr (Nat.eq_of_beq_eq_true q)
  · intro m x n hx hl
    cases h : MT.get m with
    | none => rw [own0 m h] at hl; have := (key0 x hx).1; rw [show (mkX P hk ct tr).g.cst = t_cst from rfl, this] at hl; cases hl
    | some e =>
      obtain ⟨v, h1, h2⟩ := cst_ok.at hl
      rw [(ord_key hx).1, (ord_key hx).2, ← cls1 m e h] at h2
      exact ⟨v, h1, h2⟩
  · intro m x n hx hl
    cases h : MT.get m with
    | none => rw [own0 m h] at hl; have := (key0 x hx).2.1; rw [show (mkX P hk ct tr).g.cstl = t_cstl from rfl, this] at hl; cases hl
    | some e =>
      obtain ⟨v, h1, h2⟩ := cstl_ok.at hl
      rw [(ord_key hx).1, (ord_key hx).2, ← cls1 m e h] at h2
      exact ⟨v, h1, h2⟩
  · intro m x ci j t hx hl
    cases h : MT.get m with
    | none => rw [own0 m h] at hl; have := (key0 x hx).2.2.1; rw [show (mkX P hk ct tr).g.fld = t_fld from rfl, this] at hl; cases hl
    | some e =>
      obtain ⟨h1, ty, fin, h2, h3⟩ := fld_ok.at hl
      rw [(ord_key hx).1, (ord_key hx).2, ← cls1 m e h] at h2
      exact ⟨h1, ty, fin, h2, h3⟩
  · intro k j ci kd t hj hl
    have := (BT.all_P kf_chk).at hl
    simp only [(kf_key hj).1, (kf_key hj).2, Bool.and_eq_true, Bool.or_eq_true, Bool.not_eq_true'] at this
    obtain ⟨⟨h1, h2⟩, h3, h4, h5, h6⟩ := this
    refine ⟨Nat.le_of_ble_eq_true h1, Nat.le_of_ble_eq_true h2, ⟨(KD k).2, ?_, ?_⟩, fun e => ?_, ?_⟩
    · rw [← Nat.eq_of_beq_eq_true h3]
    · split at h4
      · rename_i q hq
        rw [hq, Nat.eq_of_beq_eq_true h4]
      · cases h4
    · rcases h5 with h5 | h5
      · rw [e] at h5; cases h5
      · exact Nat.eq_of_beq_eq_true h5
    · split at h6
      · cases h6
      · assumption
  · intro k kd z hl
    have := (BT.all_P ka_chk).at hl
    simp only [Bool.and_eq_true] at this
    obtain ⟨⟨h1, h2⟩, h3, h4⟩ := this
    refine ⟨Nat.le_of_ble_eq_true h1, ?_, Nat.le_of_ble_eq_true h2⟩
    split at h4
    · rename_i y hy
      have e1 := Nat.eq_of_beq_eq_true h3
      have e2 := Nat.eq_of_beq_eq_true h4
      rw [← e1, ← e2, ← hy]
    · cases h4
  · intro k b n hl
    have := (BT.all_P kr_chk).at hl
    split at this
    · rename_i kd z hz
      rw [Bool.and_eq_true] at this
      refine ⟨z, ?_, fun i hi => rfIn_ok this.2 hi⟩
      rw [← Nat.eq_of_beq_eq_true this.1]
      exact hz
    · cases this
  · intro m x n hx hl hn
    cases h : MT.get m with
    | none => rw [own0 m h] at hl; have := (key0 x hx).2.2.2.2; rw [show (mkX P hk ct tr).g.lib = t_lib from rfl, this] at hl; cases hl
    | some e =>
      obtain ⟨q, h1, h2, h3⟩ := str_ok.at hl hn
      rw [(ord_key hx).1, ← cls1 m e h] at h2
      rw [(ord_key hx).2] at h3
      exact ⟨q, h1, h2, h3⟩
  · intro m x n hx hl
    cases h : MT.get m with
    | none => rw [own0 m h] at hl; have := (key0 x hx).2.2.2.2; rw [show (mkX P hk ct tr).g.lib = t_lib from rfl, this] at hl; cases hl
    | some e =>
      have := fz_ok.at hl
      rw [(ord_key hx).1, (ord_key hx).2, ← cls1 m e h] at this
      exact this
  · intro m fr lo nl t q hl
    cases h : MT.get m with
    | none =>
      have := (BT.all_P room_in).at hl
      rw [h] at this
      cases this
    | some e =>
      obtain ⟨-, -, h3, h4⟩ := own_ok h
      have hl' : t_room.get m = some (fr, (lo, (nl, (t, q)))) := hl
      rw [hl'] at h3
      have := Option.some.inj h3
      rw [(own1 m e h).2]
      rw [← this] at h4
      exact h4
  · intro m x z k b hx hl
    cases h : MT.get m with
    | none => rw [own0 m h] at hl; have := (key0 x hx).2.2.2.1; rw [show (mkX P hk ct tr).call = t_call from rfl, this] at hl; cases hl
    | some e =>
      have h1 := call_ok.at hl
      unfold CallOk at h1
      rw [(ord_key hx).1, (ord_key hx).2, ← cls1 m e h] at h1
      exact h1
end
