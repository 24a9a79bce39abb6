theorem ka_Ro_firstNotHolding_3_0L9 : chkA GXL9 3000 162 ct_Ro_firstNotHoldingL9 3 ca_Ro_firstNotHolding_3_0L9 = true := by decide +kernel
theorem ka_Ro_firstNotHolding_42_0L9 : chkA GXL9 3000 162 ct_Ro_firstNotHoldingL9 42 ca_Ro_firstNotHolding_42_0L9 = true := by decide +kernel
theorem kk_Ro_firstNotHoldingL9 : Chk GXL9 3000 162 ct_Ro_firstNotHoldingL9 := ⟨ke_Ro_firstNotHoldingL9, fun pc as h => (show BT.AllP (fun pc as => ∀ a ∈ as, chkA GXL9 3000 162 ct_Ro_firstNotHoldingL9 pc a = true) ct_Ro_firstNotHoldingL9.cut from ⟨⟨List.forall_mem_cons.mpr ⟨ka_Ro_firstNotHolding_3_0L9, fun a ha => by cases ha⟩, trivial⟩, ⟨List.forall_mem_cons.mpr ⟨ka_Ro_firstNotHolding_42_0L9, fun a ha => by cases ha⟩, trivial⟩, trivial⟩).at h⟩
theorem ke_Ro_giveRow : chkE GXL9 3000 163 ct_Ro_giveRow = true := by decide +kernel
theorem kk_Ro_giveRow : Chk GXL9 3000 163 ct_Ro_giveRow := ⟨ke_Ro_giveRow, fun pc as h => (show BT.AllP (fun pc as => ∀ a ∈ as, chkA GXL9 3000 163 ct_Ro_giveRow pc a = true) ct_Ro_giveRow.cut from trivial).at h⟩
theorem ke_H_give : chkE GXL9 3000 164 ct_H_give = true := by decide +kernel
theorem kk_H_give : Chk GXL9 3000 164 ct_H_give := ⟨ke_H_give, fun pc as h => (show BT.AllP (fun pc as => ∀ a ∈ as, chkA GXL9 3000 164 ct_H_give pc a = true) ct_H_give.cut from trivial).at h⟩
theorem ke_Wh_endRows : chkE GXL9 3000 165 ct_Wh_endRows = true := by decide +kernel
theorem ka_Wh_endRows_6_0 : chkA GXL9 3000 165 ct_Wh_endRows 6 ca_Wh_endRows_6_0 = true := by decide +kernel
theorem kk_Wh_endRows : Chk GXL9 3000 165 ct_Wh_endRows := ⟨ke_Wh_endRows, fun pc as h => (show BT.AllP (fun pc as => ∀ a ∈ as, chkA GXL9 3000 165 ct_Wh_endRows pc a = true) ct_Wh_endRows.cut from ⟨⟨List.forall_mem_cons.mpr ⟨ka_Wh_endRows_6_0, fun a ha => by cases ha⟩, trivial⟩, trivial⟩).at h⟩
theorem ke_H_take : chkE GXL9 3000 166 ct_H_take = true := by decide +kernel
theorem kk_H_take : Chk GXL9 3000 166 ct_H_take := ⟨ke_H_take, fun pc as h => (show BT.AllP (fun pc as => ∀ a ∈ as, chkA GXL9 3000 166 ct_H_take pc a = true) ct_H_take.cut from trivial).at h⟩
theorem ke_H_brokenL9 : chkE GXL9 3000 167 ct_H_brokenL9 = true := by decide +kernel
theorem kk_H_brokenL9 : Chk GXL9 3000 167 ct_H_brokenL9 := ⟨ke_H_brokenL9, fun pc as h => (show BT.AllP (fun pc as => ∀ a ∈ as, chkA GXL9 3000 167 ct_H_brokenL9 pc a = true) ct_H_brokenL9.cut from trivial).at h⟩
theorem ke_H_breachL9 : chkE GXL9 3000 168 ct_H_breach = true := by decide +kernel
theorem kk_H_breachL9 : Chk GXL9 3000 168 ct_H_breach := ⟨ke_H_breachL9, fun pc as h => (show BT.AllP (fun pc as => ∀ a ∈ as, chkA GXL9 3000 168 ct_H_breach pc a = true) ct_H_breach.cut from trivial).at h⟩
theorem ke_H_sessionL9 : chkE GXL9 3000 170 ct_H_session = true := by decide +kernel
theorem kk_H_sessionL9 : Chk GXL9 3000 170 ct_H_session := ⟨ke_H_sessionL9, fun pc as h => (show BT.AllP (fun pc as => ∀ a ∈ as, chkA GXL9 3000 170 ct_H_session pc a = true) ct_H_session.cut from trivial).at h⟩
theorem ke_Ro_turnOnL9 : chkE GXL9 3000 171 ct_Ro_turnOnL9 = true := by decide +kernel
theorem kk_Ro_turnOnL9 : Chk GXL9 3000 171 ct_Ro_turnOnL9 := ⟨ke_Ro_turnOnL9, fun pc as h => (show BT.AllP (fun pc as => ∀ a ∈ as, chkA GXL9 3000 171 ct_Ro_turnOnL9 pc a = true) ct_Ro_turnOnL9.cut from trivial).at h⟩
theorem ke_H_switchOnL9 : chkE GXL9 3000 172 ct_H_switchOnL9 = true := by decide +kernel
theorem kk_H_switchOnL9 : Chk GXL9 3000 172 ct_H_switchOnL9 := ⟨ke_H_switchOnL9, fun pc as h => (show BT.AllP (fun pc as => ∀ a ∈ as, chkA GXL9 3000 172 ct_H_switchOnL9 pc a = true) ct_H_switchOnL9.cut from trivial).at h⟩
theorem ke_H_switchOffL9 : chkE GXL9 3000 173 ct_H_switchOffL9 = true := by decide +kernel
theorem kk_H_switchOffL9 : Chk GXL9 3000 173 ct_H_switchOffL9 := ⟨ke_H_switchOffL9, fun pc as h => (show BT.AllP (fun pc as => ∀ a ∈ as, chkA GXL9 3000 173 ct_H_switchOffL9 pc a = true) ct_H_switchOffL9.cut from trivial).at h⟩
theorem ke_Ro_groupsInL9 : chkE GXL9 3000 174 ct_Ro_groupsInL9 = true := by decide +kernel
theorem kk_Ro_groupsInL9 : Chk GXL9 3000 174 ct_Ro_groupsInL9 := ⟨ke_Ro_groupsInL9, fun pc as h => (show BT.AllP (fun pc as => ∀ a ∈ as, chkA GXL9 3000 174 ct_Ro_groupsInL9 pc a = true) ct_Ro_groupsInL9.cut from trivial).at h⟩
theorem ke_H_askInL9 : chkE GXL9 3000 175 ct_H_askInL9 = true := by decide +kernel
theorem kk_H_askInL9 : Chk GXL9 3000 175 ct_H_askInL9 := ⟨ke_H_askInL9, fun pc as h => (show BT.AllP (fun pc as => ∀ a ∈ as, chkA GXL9 3000 175 ct_H_askInL9 pc a = true) ct_H_askInL9.cut from trivial).at h⟩
theorem ke_H_workL9 : chkE GXL9 3000 176 ct_H_workL9 = true := by decide +kernel
theorem kk_H_workL9 : Chk GXL9 3000 176 ct_H_workL9 := ⟨ke_H_workL9, fun pc as h => (show BT.AllP (fun pc as => ∀ a ∈ as, chkA GXL9 3000 176 ct_H_workL9 pc a = true) ct_H_workL9.cut from trivial).at h⟩
theorem ke_H_stepL9 : chkE GXL9 3000 178 ct_H_stepL9 = true := by decide +kernel
theorem kk_H_stepL9 : Chk GXL9 3000 178 ct_H_stepL9 := ⟨ke_H_stepL9, fun pc as h => (show BT.AllP (fun pc as => ∀ a ∈ as, chkA GXL9 3000 178 ct_H_stepL9 pc a = true) ct_H_stepL9.cut from trivial).at h⟩
theorem ke_H_tieL9 : chkE GXL9 3000 180 ct_H_tieL9 = true := by decide +kernel
theorem kk_H_tieL9 : Chk GXL9 3000 180 ct_H_tieL9 := ⟨ke_H_tieL9, fun pc as h => (show BT.AllP (fun pc as => ∀ a ∈ as, chkA GXL9 3000 180 ct_H_tieL9 pc a = true) ct_H_tieL9.cut from trivial).at h⟩
theorem ke_Wo_prepareL9 : chkE GXL9 3000 182 ct_Wo_prepareL9 = true := by decide +kernel
theorem ka_Wo_prepare_8_0L9 : chkA GXL9 3000 182 ct_Wo_prepareL9 8 ca_Wo_prepare_8_0L9 = true := by decide +kernel
theorem ka_Wo_prepare_67_0L9 : chkA GXL9 3000 182 ct_Wo_prepareL9 67 ca_Wo_prepare_67_0L9 = true := by decide +kernel
theorem ka_Wo_prepare_105_0L9 : chkA GXL9 3000 182 ct_Wo_prepareL9 105 ca_Wo_prepare_105_0L9 = true := by decide +kernel
theorem kk_Wo_prepareL9 : Chk GXL9 3000 182 ct_Wo_prepareL9 := ⟨ke_Wo_prepareL9, fun pc as h => (show BT.AllP (fun pc as => ∀ a ∈ as, chkA GXL9 3000 182 ct_Wo_prepareL9 pc a = true) ct_Wo_prepareL9.cut from ⟨⟨List.forall_mem_cons.mpr ⟨ka_Wo_prepare_8_0L9, fun a ha => by cases ha⟩, trivial⟩, ⟨List.forall_mem_cons.mpr ⟨ka_Wo_prepare_67_0L9, fun a ha => by cases ha⟩, trivial⟩, ⟨List.forall_mem_cons.mpr ⟨ka_Wo_prepare_105_0L9, fun a ha => by cases ha⟩, trivial⟩, trivial⟩).at h⟩
theorem ke_Wo_hasAnybodyMoreThanL9 : chkE GXL9 3000 183 ct_Wo_hasAnybodyMoreThanL9 = true := by decide +kernel
theorem ka_Wo_hasAnybodyMoreThan_2_0L9 : chkA GXL9 3000 183 ct_Wo_hasAnybodyMoreThanL9 2 ca_Wo_hasAnybodyMoreThan_2_0L9 = true := by decide +kernel
theorem ka_Wo_hasAnybodyMoreThan_13_0L9 : chkA GXL9 3000 183 ct_Wo_hasAnybodyMoreThanL9 13 ca_Wo_hasAnybodyMoreThan_13_0L9 = true := by decide +kernel
theorem kk_Wo_hasAnybodyMoreThanL9 : Chk GXL9 3000 183 ct_Wo_hasAnybodyMoreThanL9 := ⟨ke_Wo_hasAnybodyMoreThanL9, fun pc as h => (show BT.AllP (fun pc as => ∀ a ∈ as, chkA GXL9 3000 183 ct_Wo_hasAnybodyMoreThanL9 pc a = true) ct_Wo_hasAnybodyMoreThanL9.cut from ⟨⟨List.forall_mem_cons.mpr ⟨ka_Wo_hasAnybodyMoreThan_2_0L9, fun a ha => by cases ha⟩, trivial⟩, ⟨List.forall_mem_cons.mpr ⟨ka_Wo_hasAnybodyMoreThan_13_0L9, fun a ha => by cases ha⟩, trivial⟩, trivial⟩).at h⟩
theorem ke_Wo_doTiesHoldL9 : chkE GXL9 3000 184 ct_Wo_doTiesHoldL9 = true := by decide +kernel
theorem ka_Wo_doTiesHold_5_0L9 : chkA GXL9 3000 184 ct_Wo_doTiesHoldL9 5 ca_Wo_doTiesHold_5_0L9 = true := by decide +kernel
theorem kk_Wo_doTiesHoldL9 : Chk GXL9 3000 184 ct_Wo_doTiesHoldL9 := ⟨ke_Wo_doTiesHoldL9, fun pc as h => (show BT.AllP (fun pc as => ∀ a ∈ as, chkA GXL9 3000 184 ct_Wo_doTiesHoldL9 pc a = true) ct_Wo_doTiesHoldL9.cut from ⟨⟨List.forall_mem_cons.mpr ⟨ka_Wo_doTiesHold_5_0L9, fun a ha => by cases ha⟩, trivial⟩, trivial⟩).at h⟩
theorem ke_Wo_searchFromL9 : chkE GXL9 3000 185 ct_Wo_searchFromL9 = true := by decide +kernel
theorem ka_Wo_searchFrom_53_0L9 : chkA GXL9 3000 185 ct_Wo_searchFromL9 53 ca_Wo_searchFrom_53_0 = true := by decide +kernel
theorem kk_Wo_searchFromL9 : Chk GXL9 3000 185 ct_Wo_searchFromL9 := ⟨ke_Wo_searchFromL9, fun pc as h => (show BT.AllP (fun pc as => ∀ a ∈ as, chkA GXL9 3000 185 ct_Wo_searchFromL9 pc a = true) ct_Wo_searchFromL9.cut from ⟨⟨List.forall_mem_cons.mpr ⟨ka_Wo_searchFrom_53_0L9, fun a ha => by cases ha⟩, trivial⟩, trivial⟩).at h⟩
theorem ke_Wo_searchL9 : chkE GXL9 3000 186 ct_Wo_searchL9 = true := by decide +kernel
theorem kk_Wo_searchL9 : Chk GXL9 3000 186 ct_Wo_searchL9 := ⟨ke_Wo_searchL9, fun pc as h => (show BT.AllP (fun pc as => ∀ a ∈ as, chkA GXL9 3000 186 ct_Wo_searchL9 pc a = true) ct_Wo_searchL9.cut from trivial).at h⟩
theorem ke_Wo_keepL9 : chkE GXL9 3000 187 ct_Wo_keepL9 = true := by decide +kernel
theorem ka_Wo_keep_2_0L9 : chkA GXL9 3000 187 ct_Wo_keepL9 2 ca_Wo_keep_2_0L9 = true := by decide +kernel
theorem kk_Wo_keepL9 : Chk GXL9 3000 187 ct_Wo_keepL9 := ⟨ke_Wo_keepL9, fun pc as h => (show BT.AllP (fun pc as => ∀ a ∈ as, chkA GXL9 3000 187 ct_Wo_keepL9 pc a = true) ct_Wo_keepL9.cut from ⟨⟨List.forall_mem_cons.mpr ⟨ka_Wo_keep_2_0L9, fun a ha => by cases ha⟩, trivial⟩, trivial⟩).at h⟩
theorem ke_H_fillL9 : chkE GXL9 3000 188 ct_H_fillL9 = true := by decide +kernel
theorem kk_H_fillL9 : Chk GXL9 3000 188 ct_H_fillL9 := ⟨ke_H_fillL9, fun pc as h => (show BT.AllP (fun pc as => ∀ a ∈ as, chkA GXL9 3000 188 ct_H_fillL9 pc a = true) ct_H_fillL9.cut from trivial).at h⟩
theorem ke_H_filledL9 : chkE GXL9 3000 189 ct_H_filledL9 = true := by decide +kernel
theorem kk_H_filledL9 : Chk GXL9 3000 189 ct_H_filledL9 := ⟨ke_H_filledL9, fun pc as h => (show BT.AllP (fun pc as => ∀ a ∈ as, chkA GXL9 3000 189 ct_H_filledL9 pc a = true) ct_H_filledL9.cut from trivial).at h⟩
theorem ke_Wo_searchWithL9 : chkE GXL9 3000 190 ct_Wo_searchWithL9 = true := by decide +kernel
theorem kk_Wo_searchWithL9 : Chk GXL9 3000 190 ct_Wo_searchWithL9 := ⟨ke_Wo_searchWithL9, fun pc as h => (show BT.AllP (fun pc as => ∀ a ∈ as, chkA GXL9 3000 190 ct_Wo_searchWithL9 pc a = true) ct_Wo_searchWithL9.cut from trivial).at h⟩
theorem ke_H_nextL9 : chkE GXL9 3000 191 ct_H_nextL9 = true := by decide +kernel
theorem kk_H_nextL9 : Chk GXL9 3000 191 ct_H_nextL9 := ⟨ke_H_nextL9, fun pc as h => (show BT.AllP (fun pc as => ∀ a ∈ as, chkA GXL9 3000 191 ct_H_nextL9 pc a = true) ct_H_nextL9.cut from trivial).at h⟩
theorem ke_H_performL9 : chkE GXL9 3000 192 ct_H_performL9 = true := by decide +kernel
theorem kk_H_performL9 : Chk GXL9 3000 192 ct_H_performL9 := ⟨ke_H_performL9, fun pc as h => (show BT.AllP (fun pc as => ∀ a ∈ as, chkA GXL9 3000 192 ct_H_performL9 pc a = true) ct_H_performL9.cut from trivial).at h⟩
theorem ke_Wo_hasDoneL9 : chkE GXL9 3000 193 ct_Wo_hasDoneL9 = true := by decide +kernel
theorem ka_Wo_hasDone_2_0L9 : chkA GXL9 3000 193 ct_Wo_hasDoneL9 2 ca_Wo_hasDone_2_0L9 = true := by decide +kernel
theorem kk_Wo_hasDoneL9 : Chk GXL9 3000 193 ct_Wo_hasDoneL9 := ⟨ke_Wo_hasDoneL9, fun pc as h => (show BT.AllP (fun pc as => ∀ a ∈ as, chkA GXL9 3000 193 ct_Wo_hasDoneL9 pc a = true) ct_Wo_hasDoneL9.cut from ⟨⟨List.forall_mem_cons.mpr ⟨ka_Wo_hasDone_2_0L9, fun a ha => by cases ha⟩, trivial⟩, trivial⟩).at h⟩
theorem ke_H_neededL9 : chkE GXL9 3000 194 ct_H_neededL9 = true := by decide +kernel
theorem kk_H_neededL9 : Chk GXL9 3000 194 ct_H_neededL9 := ⟨ke_H_neededL9, fun pc as h => (show BT.AllP (fun pc as => ∀ a ∈ as, chkA GXL9 3000 194 ct_H_neededL9 pc a = true) ct_H_neededL9.cut from trivial).at h⟩
theorem ke_H_triesL9 : chkE GXL9 3000 195 ct_H_triesL9 = true := by decide +kernel
theorem kk_H_triesL9 : Chk GXL9 3000 195 ct_H_triesL9 := ⟨ke_H_triesL9, fun pc as h => (show BT.AllP (fun pc as => ∀ a ∈ as, chkA GXL9 3000 195 ct_H_triesL9 pc a = true) ct_H_triesL9.cut from trivial).at h⟩
theorem ke_H_chainL9 : chkE GXL9 3000 204 ct_H_chain = true := by decide +kernel
theorem kk_H_chainL9 : Chk GXL9 3000 204 ct_H_chain := ⟨ke_H_chainL9, fun pc as h => (show BT.AllP (fun pc as => ∀ a ∈ as, chkA GXL9 3000 204 ct_H_chain pc a = true) ct_H_chain.cut from trivial).at h⟩
theorem ke_H_lendOfL9 : chkE GXL9 3000 207 ct_H_lendOfL9 = true := by decide +kernel
theorem kk_H_lendOfL9 : Chk GXL9 3000 207 ct_H_lendOfL9 := ⟨ke_H_lendOfL9, fun pc as h => (show BT.AllP (fun pc as => ∀ a ∈ as, chkA GXL9 3000 207 ct_H_lendOfL9 pc a = true) ct_H_lendOfL9.cut from trivial).at h⟩
theorem ke_H_keyL9 : chkE GXL9 3000 210 ct_H_keyL9 = true := by decide +kernel
theorem kk_H_keyL9 : Chk GXL9 3000 210 ct_H_keyL9 := ⟨ke_H_keyL9, fun pc as h => (show BT.AllP (fun pc as => ∀ a ∈ as, chkA GXL9 3000 210 ct_H_keyL9 pc a = true) ct_H_keyL9.cut from trivial).at h⟩
theorem ke_Le_passL9 : chkE GXL9 3000 211 ct_Le_passL9 = true := by decide +kernel
theorem kk_Le_passL9 : Chk GXL9 3000 211 ct_Le_passL9 := ⟨ke_Le_passL9, fun pc as h => (show BT.AllP (fun pc as => ∀ a ∈ as, chkA GXL9 3000 211 ct_Le_passL9 pc a = true) ct_Le_passL9.cut from trivial).at h⟩
theorem ke_Le_goRoundL9 : chkE GXL9 3000 212 ct_Le_goRoundL9 = true := by decide +kernel
theorem ka_Le_goRound_2_0L9 : chkA GXL9 3000 212 ct_Le_goRoundL9 2 ca_Le_goRound_2_0L9 = true := by decide +kernel
theorem ka_Le_goRound_10_0L9 : chkA GXL9 3000 212 ct_Le_goRoundL9 10 ca_Le_goRound_10_0 = true := by decide +kernel
theorem ka_Le_goRound_18_0L9 : chkA GXL9 3000 212 ct_Le_goRoundL9 18 ca_Le_goRound_18_0L9 = true := by decide +kernel
theorem kk_Le_goRoundL9 : Chk GXL9 3000 212 ct_Le_goRoundL9 := ⟨ke_Le_goRoundL9, fun pc as h => (show BT.AllP (fun pc as => ∀ a ∈ as, chkA GXL9 3000 212 ct_Le_goRoundL9 pc a = true) ct_Le_goRoundL9.cut from ⟨⟨List.forall_mem_cons.mpr ⟨ka_Le_goRound_2_0L9, fun a ha => by cases ha⟩, trivial⟩, ⟨List.forall_mem_cons.mpr ⟨ka_Le_goRound_10_0L9, fun a ha => by cases ha⟩, trivial⟩, ⟨List.forall_mem_cons.mpr ⟨ka_Le_goRound_18_0L9, fun a ha => by cases ha⟩, trivial⟩, trivial⟩).at h⟩
theorem ke_Le_countGainsL9 : chkE GXL9 3000 213 ct_Le_countGainsL9 = true := by decide +kernel
theorem ka_Le_countGains_24_0L9 : chkA GXL9 3000 213 ct_Le_countGainsL9 24 ca_Le_countGains_24_0 = true := by decide +kernel
theorem ka_Le_countGains_51_0L9 : chkA GXL9 3000 213 ct_Le_countGainsL9 51 ca_Le_countGains_51_0L9 = true := by decide +kernel
theorem kk_Le_countGainsL9 : Chk GXL9 3000 213 ct_Le_countGainsL9 := ⟨ke_Le_countGainsL9, fun pc as h => (show BT.AllP (fun pc as => ∀ a ∈ as, chkA GXL9 3000 213 ct_Le_countGainsL9 pc a = true) ct_Le_countGainsL9.cut from ⟨⟨List.forall_mem_cons.mpr ⟨ka_Le_countGains_24_0L9, fun a ha => by cases ha⟩, trivial⟩, ⟨List.forall_mem_cons.mpr ⟨ka_Le_countGains_51_0L9, fun a ha => by cases ha⟩, trivial⟩, trivial⟩).at h⟩
theorem ke_Le_gainsUntilL9 : chkE GXL9 3000 214 ct_Le_gainsUntilL9 = true := by decide +kernel
theorem ka_Le_gainsUntil_33_0L9 : chkA GXL9 3000 214 ct_Le_gainsUntilL9 33 ca_Le_gainsUntil_33_0L9 = true := by decide +kernel
theorem kk_Le_gainsUntilL9 : Chk GXL9 3000 214 ct_Le_gainsUntilL9 := ⟨ke_Le_gainsUntilL9, fun pc as h => (show BT.AllP (fun pc as => ∀ a ∈ as, chkA GXL9 3000 214 ct_Le_gainsUntilL9 pc a = true) ct_Le_gainsUntilL9.cut from ⟨⟨List.forall_mem_cons.mpr ⟨ka_Le_gainsUntil_33_0L9, fun a ha => by cases ha⟩, trivial⟩, trivial⟩).at h⟩
theorem ke_H_everL9 : chkE GXL9 3000 215 ct_H_everL9 = true := by decide +kernel
theorem kk_H_everL9 : Chk GXL9 3000 215 ct_H_everL9 := ⟨ke_H_everL9, fun pc as h => (show BT.AllP (fun pc as => ∀ a ∈ as, chkA GXL9 3000 215 ct_H_everL9 pc a = true) ct_H_everL9.cut from trivial).at h⟩
theorem ke_H_gainL9 : chkE GXL9 3000 216 ct_H_gainL9 = true := by decide +kernel
theorem kk_H_gainL9 : Chk GXL9 3000 216 ct_H_gainL9 := ⟨ke_H_gainL9, fun pc as h => (show BT.AllP (fun pc as => ∀ a ∈ as, chkA GXL9 3000 216 ct_H_gainL9 pc a = true) ct_H_gainL9.cut from trivial).at h⟩
theorem ke_H_labelL9 : chkE GXL9 3000 217 ct_H_labelL9 = true := by decide +kernel
theorem kk_H_labelL9 : Chk GXL9 3000 217 ct_H_labelL9 := ⟨ke_H_labelL9, fun pc as h => (show BT.AllP (fun pc as => ∀ a ∈ as, chkA GXL9 3000 217 ct_H_labelL9 pc a = true) ct_H_labelL9.cut from trivial).at h⟩
theorem ke_Fl_reachesOutL9 : chkE GXL9 3000 222 ct_Fl_reachesOutL9 = true := by decide +kernel
theorem ka_Fl_reachesOut_8_0L9 : chkA GXL9 3000 222 ct_Fl_reachesOutL9 8 ca_Fl_reachesOut_8_0L9 = true := by decide +kernel
theorem kk_Fl_reachesOutL9 : Chk GXL9 3000 222 ct_Fl_reachesOutL9 := ⟨ke_Fl_reachesOutL9, fun pc as h => (show BT.AllP (fun pc as => ∀ a ∈ as, chkA GXL9 3000 222 ct_Fl_reachesOutL9 pc a = true) ct_Fl_reachesOutL9.cut from ⟨⟨List.forall_mem_cons.mpr ⟨ka_Fl_reachesOut_8_0L9, fun a ha => by cases ha⟩, trivial⟩, trivial⟩).at h⟩
theorem ke_H_statementL9 : chkE GXL9 3000 224 ct_H_statementL9 = true := by decide +kernel
theorem kk_H_statementL9 : Chk GXL9 3000 224 ct_H_statementL9 := ⟨ke_H_statementL9, fun pc as h => (show BT.AllP (fun pc as => ∀ a ∈ as, chkA GXL9 3000 224 ct_H_statementL9 pc a = true) ct_H_statementL9.cut from trivial).at h⟩
theorem ke_H_eraseL9 : chkE GXL9 3000 225 ct_H_eraseL9 = true := by decide +kernel
theorem kk_H_eraseL9 : Chk GXL9 3000 225 ct_H_eraseL9 := ⟨ke_H_eraseL9, fun pc as h => (show BT.AllP (fun pc as => ∀ a ∈ as, chkA GXL9 3000 225 ct_H_eraseL9 pc a = true) ct_H_eraseL9.cut from trivial).at h⟩
theorem ke_Fl_isTightL9 : chkE GXL9 3000 227 ct_Fl_isTightL9 = true := by decide +kernel
theorem ka_Fl_isTight_6_0L9 : chkA GXL9 3000 227 ct_Fl_isTightL9 6 ca_Fl_isTight_6_0L9 = true := by decide +kernel
theorem kk_Fl_isTightL9 : Chk GXL9 3000 227 ct_Fl_isTightL9 := ⟨ke_Fl_isTightL9, fun pc as h => (show BT.AllP (fun pc as => ∀ a ∈ as, chkA GXL9 3000 227 ct_Fl_isTightL9 pc a = true) ct_Fl_isTightL9.cut from ⟨⟨List.forall_mem_cons.mpr ⟨ka_Fl_isTight_6_0L9, fun a ha => by cases ha⟩, trivial⟩, trivial⟩).at h⟩
theorem ke_Fl_firstLooseL9 : chkE GXL9 3000 228 ct_Fl_firstLooseL9 = true := by decide +kernel
theorem ka_Fl_firstLoose_2_0L9 : chkA GXL9 3000 228 ct_Fl_firstLooseL9 2 ca_Fl_firstLoose_2_0L9 = true := by decide +kernel
theorem kk_Fl_firstLooseL9 : Chk GXL9 3000 228 ct_Fl_firstLooseL9 := ⟨ke_Fl_firstLooseL9, fun pc as h => (show BT.AllP (fun pc as => ∀ a ∈ as, chkA GXL9 3000 228 ct_Fl_firstLooseL9 pc a = true) ct_Fl_firstLooseL9.cut from ⟨⟨List.forall_mem_cons.mpr ⟨ka_Fl_firstLoose_2_0L9, fun a ha => by cases ha⟩, trivial⟩, trivial⟩).at h⟩
theorem ke_H_tightL9 : chkE GXL9 3000 229 ct_H_tightL9 = true := by decide +kernel
theorem kk_H_tightL9 : Chk GXL9 3000 229 ct_H_tightL9 := ⟨ke_H_tightL9, fun pc as h => (show BT.AllP (fun pc as => ∀ a ∈ as, chkA GXL9 3000 229 ct_H_tightL9 pc a = true) ct_H_tightL9.cut from trivial).at h⟩
theorem ke_Fl_countLowersL9 : chkE GXL9 3000 230 ct_Fl_countLowersL9 = true := by decide +kernel
theorem ka_Fl_countLowers_4_0L9 : chkA GXL9 3000 230 ct_Fl_countLowersL9 4 ca_Fl_countLowers_4_0L9 = true := by decide +kernel
theorem kk_Fl_countLowersL9 : Chk GXL9 3000 230 ct_Fl_countLowersL9 := ⟨ke_Fl_countLowersL9, fun pc as h => (show BT.AllP (fun pc as => ∀ a ∈ as, chkA GXL9 3000 230 ct_Fl_countLowersL9 pc a = true) ct_Fl_countLowersL9.cut from ⟨⟨List.forall_mem_cons.mpr ⟨ka_Fl_countLowers_4_0L9, fun a ha => by cases ha⟩, trivial⟩, trivial⟩).at h⟩
theorem ke_H_loweredL9 : chkE GXL9 3000 231 ct_H_loweredL9 = true := by decide +kernel
theorem kk_H_loweredL9 : Chk GXL9 3000 231 ct_H_loweredL9 := ⟨ke_H_loweredL9, fun pc as h => (show BT.AllP (fun pc as => ∀ a ∈ as, chkA GXL9 3000 231 ct_H_loweredL9 pc a = true) ct_H_loweredL9.cut from trivial).at h⟩
theorem ke_H_givenL9 : chkE GXL9 3000 232 ct_H_givenL9 = true := by decide +kernel
theorem kk_H_givenL9 : Chk GXL9 3000 232 ct_H_givenL9 := ⟨ke_H_givenL9, fun pc as h => (show BT.AllP (fun pc as => ∀ a ∈ as, chkA GXL9 3000 232 ct_H_givenL9 pc a = true) ct_H_givenL9.cut from trivial).at h⟩
theorem ke_Fl_runOneL9 : chkE GXL9 3000 236 ct_Fl_runOneL9 = true := by decide +kernel
theorem kk_Fl_runOneL9 : Chk GXL9 3000 236 ct_Fl_runOneL9 := ⟨ke_Fl_runOneL9, fun pc as h => (show BT.AllP (fun pc as => ∀ a ∈ as, chkA GXL9 3000 236 ct_Fl_runOneL9 pc a = true) ct_Fl_runOneL9.cut from trivial).at h⟩
theorem ke_Fl_runL9 : chkE GXL9 3000 237 ct_Fl_runL9 = true := by decide +kernel
theorem ka_Fl_run_2_0L9 : chkA GXL9 3000 237 ct_Fl_runL9 2 ca_Fl_run_2_0L9 = true := by decide +kernel
theorem ka_Fl_run_28_0L9 : chkA GXL9 3000 237 ct_Fl_runL9 28 ca_Fl_run_28_0L9 = true := by decide +kernel
theorem ka_Fl_run_55_0L9 : chkA GXL9 3000 237 ct_Fl_runL9 55 ca_Fl_run_55_0L9 = true := by decide +kernel
theorem kk_Fl_runL9 : Chk GXL9 3000 237 ct_Fl_runL9 := ⟨ke_Fl_runL9, fun pc as h => (show BT.AllP (fun pc as => ∀ a ∈ as, chkA GXL9 3000 237 ct_Fl_runL9 pc a = true) ct_Fl_runL9.cut from ⟨⟨List.forall_mem_cons.mpr ⟨ka_Fl_run_2_0L9, fun a ha => by cases ha⟩, trivial⟩, ⟨List.forall_mem_cons.mpr ⟨ka_Fl_run_28_0L9, fun a ha => by cases ha⟩, trivial⟩, ⟨List.forall_mem_cons.mpr ⟨ka_Fl_run_55_0L9, fun a ha => by cases ha⟩, trivial⟩, trivial⟩).at h⟩
theorem ke_H_flowL9 : chkE GXL9 3000 238 ct_H_flow = true := by decide +kernel
theorem kk_H_flowL9 : Chk GXL9 3000 238 ct_H_flow := ⟨ke_H_flowL9, fun pc as h => (show BT.AllP (fun pc as => ∀ a ∈ as, chkA GXL9 3000 238 ct_H_flow pc a = true) ct_H_flow.cut from trivial).at h⟩
theorem ke_H_saidL9 : chkE GXL9 3000 239 ct_H_saidL9 = true := by decide +kernel
theorem kk_H_saidL9 : Chk GXL9 3000 239 ct_H_saidL9 := ⟨ke_H_saidL9, fun pc as h => (show BT.AllP (fun pc as => ∀ a ∈ as, chkA GXL9 3000 239 ct_H_saidL9 pc a = true) ct_H_saidL9.cut from trivial).at h⟩
theorem ke_H_variableL9 : chkE GXL9 3000 240 ct_H_variable = true := by decide +kernel
theorem kk_H_variableL9 : Chk GXL9 3000 240 ct_H_variable := ⟨ke_H_variableL9, fun pc as h => (show BT.AllP (fun pc as => ∀ a ∈ as, chkA GXL9 3000 240 ct_H_variable pc a = true) ct_H_variable.cut from trivial).at h⟩
theorem ke_H_guardedL9 : chkE GXL9 3000 242 ct_H_guardedL9 = true := by decide +kernel
theorem kk_H_guardedL9 : Chk GXL9 3000 242 ct_H_guardedL9 := ⟨ke_H_guardedL9, fun pc as h => (show BT.AllP (fun pc as => ∀ a ∈ as, chkA GXL9 3000 242 ct_H_guardedL9 pc a = true) ct_H_guardedL9.cut from trivial).at h⟩
theorem ke_Gu_wasToldL9 : chkE GXL9 3000 243 ct_Gu_wasToldL9 = true := by decide +kernel
theorem ka_Gu_wasTold_2_0L9 : chkA GXL9 3000 243 ct_Gu_wasToldL9 2 ca_Gu_wasTold_2_0L9 = true := by decide +kernel
theorem kk_Gu_wasToldL9 : Chk GXL9 3000 243 ct_Gu_wasToldL9 := ⟨ke_Gu_wasToldL9, fun pc as h => (show BT.AllP (fun pc as => ∀ a ∈ as, chkA GXL9 3000 243 ct_Gu_wasToldL9 pc a = true) ct_Gu_wasToldL9.cut from ⟨⟨List.forall_mem_cons.mpr ⟨ka_Gu_wasTold_2_0L9, fun a ha => by cases ha⟩, trivial⟩, trivial⟩).at h⟩
theorem ke_Gu_totalL9 : chkE GXL9 3000 244 ct_Gu_totalL9 = true := by decide +kernel
theorem ka_Gu_total_5_0L9 : chkA GXL9 3000 244 ct_Gu_totalL9 5 ca_Gu_total_5_0 = true := by decide +kernel
theorem kk_Gu_totalL9 : Chk GXL9 3000 244 ct_Gu_totalL9 := ⟨ke_Gu_totalL9, fun pc as h => (show BT.AllP (fun pc as => ∀ a ∈ as, chkA GXL9 3000 244 ct_Gu_totalL9 pc a = true) ct_Gu_totalL9.cut from ⟨⟨List.forall_mem_cons.mpr ⟨ka_Gu_total_5_0L9, fun a ha => by cases ha⟩, trivial⟩, trivial⟩).at h⟩
theorem ke_Gu_reduceL9 : chkE GXL9 3000 245 ct_Gu_reduceL9 = true := by decide +kernel
theorem ka_Gu_reduce_6_0L9 : chkA GXL9 3000 245 ct_Gu_reduceL9 6 ca_Gu_reduce_6_0L9 = true := by decide +kernel
theorem ka_Gu_reduce_26_0L9 : chkA GXL9 3000 245 ct_Gu_reduceL9 26 ca_Gu_reduce_26_0L9 = true := by decide +kernel
theorem kk_Gu_reduceL9 : Chk GXL9 3000 245 ct_Gu_reduceL9 := ⟨ke_Gu_reduceL9, fun pc as h => (show BT.AllP (fun pc as => ∀ a ∈ as, chkA GXL9 3000 245 ct_Gu_reduceL9 pc a = true) ct_Gu_reduceL9.cut from ⟨⟨List.forall_mem_cons.mpr ⟨ka_Gu_reduce_6_0L9, fun a ha => by cases ha⟩, trivial⟩, ⟨List.forall_mem_cons.mpr ⟨ka_Gu_reduce_26_0L9, fun a ha => by cases ha⟩, trivial⟩, trivial⟩).at h⟩
theorem ke_Gu_addRowL9 : chkE GXL9 3000 246 ct_Gu_addRowL9 = true := by decide +kernel
theorem ka_Gu_addRow_33_0L9 : chkA GXL9 3000 246 ct_Gu_addRowL9 33 ca_Gu_addRow_33_0L9 = true := by decide +kernel
theorem ka_Gu_addRow_54_0L9 : chkA GXL9 3000 246 ct_Gu_addRowL9 54 ca_Gu_addRow_54_0L9 = true := by decide +kernel
theorem ka_Gu_addRow_116_0L9 : chkA GXL9 3000 246 ct_Gu_addRowL9 116 ca_Gu_addRow_116_0L9 = true := by decide +kernel
theorem kk_Gu_addRowL9 : Chk GXL9 3000 246 ct_Gu_addRowL9 := ⟨ke_Gu_addRowL9, fun pc as h => (show BT.AllP (fun pc as => ∀ a ∈ as, chkA GXL9 3000 246 ct_Gu_addRowL9 pc a = true) ct_Gu_addRowL9.cut from ⟨⟨List.forall_mem_cons.mpr ⟨ka_Gu_addRow_33_0L9, fun a ha => by cases ha⟩, trivial⟩, ⟨List.forall_mem_cons.mpr ⟨ka_Gu_addRow_54_0L9, fun a ha => by cases ha⟩, trivial⟩, ⟨List.forall_mem_cons.mpr ⟨ka_Gu_addRow_116_0L9, fun a ha => by cases ha⟩, trivial⟩, trivial⟩).at h⟩
theorem ke_Gu_rankOfL9 : chkE GXL9 3000 247 ct_Gu_rankOfL9 = true := by decide +kernel
theorem ka_Gu_rankOf_12_0L9 : chkA GXL9 3000 247 ct_Gu_rankOfL9 12 ca_Gu_rankOf_12_0L9 = true := by decide +kernel
theorem ka_Gu_rankOf_28_0L9 : chkA GXL9 3000 247 ct_Gu_rankOfL9 28 ca_Gu_rankOf_28_0 = true := by decide +kernel
theorem kk_Gu_rankOfL9 : Chk GXL9 3000 247 ct_Gu_rankOfL9 := ⟨ke_Gu_rankOfL9, fun pc as h => (show BT.AllP (fun pc as => ∀ a ∈ as, chkA GXL9 3000 247 ct_Gu_rankOfL9 pc a = true) ct_Gu_rankOfL9.cut from ⟨⟨List.forall_mem_cons.mpr ⟨ka_Gu_rankOf_12_0L9, fun a ha => by cases ha⟩, trivial⟩, ⟨List.forall_mem_cons.mpr ⟨ka_Gu_rankOf_28_0L9, fun a ha => by cases ha⟩, trivial⟩, trivial⟩).at h⟩
theorem ke_Gu_wouldRevealL9 : chkE GXL9 3000 248 ct_Gu_wouldRevealL9 = true := by decide +kernel
theorem ka_Gu_wouldReveal_13_0L9 : chkA GXL9 3000 248 ct_Gu_wouldRevealL9 13 ca_Gu_wouldReveal_13_0L9 = true := by decide +kernel
theorem ka_Gu_wouldReveal_27_0L9 : chkA GXL9 3000 248 ct_Gu_wouldRevealL9 27 ca_Gu_wouldReveal_27_0L9 = true := by decide +kernel
theorem kk_Gu_wouldRevealL9 : Chk GXL9 3000 248 ct_Gu_wouldRevealL9 := ⟨ke_Gu_wouldRevealL9, fun pc as h => (show BT.AllP (fun pc as => ∀ a ∈ as, chkA GXL9 3000 248 ct_Gu_wouldRevealL9 pc a = true) ct_Gu_wouldRevealL9.cut from ⟨⟨List.forall_mem_cons.mpr ⟨ka_Gu_wouldReveal_13_0L9, fun a ha => by cases ha⟩, trivial⟩, ⟨List.forall_mem_cons.mpr ⟨ka_Gu_wouldReveal_27_0L9, fun a ha => by cases ha⟩, trivial⟩, trivial⟩).at h⟩
theorem ke_H_sumL9 : chkE GXL9 3000 250 ct_H_sumL9 = true := by decide +kernel
theorem kk_H_sumL9 : Chk GXL9 3000 250 ct_H_sumL9 := ⟨ke_H_sumL9, fun pc as h => (show BT.AllP (fun pc as => ∀ a ∈ as, chkA GXL9 3000 250 ct_H_sumL9 pc a = true) ct_H_sumL9.cut from trivial).at h⟩
theorem ke_Gu_joinL9 : chkE GXL9 3000 251 ct_Gu_joinL9 = true := by decide +kernel
theorem ka_Gu_join_2_0L9 : chkA GXL9 3000 251 ct_Gu_joinL9 2 ca_Gu_join_2_0L9 = true := by decide +kernel
theorem kk_Gu_joinL9 : Chk GXL9 3000 251 ct_Gu_joinL9 := ⟨ke_Gu_joinL9, fun pc as h => (show BT.AllP (fun pc as => ∀ a ∈ as, chkA GXL9 3000 251 ct_Gu_joinL9 pc a = true) ct_Gu_joinL9.cut from ⟨⟨List.forall_mem_cons.mpr ⟨ka_Gu_join_2_0L9, fun a ha => by cases ha⟩, trivial⟩, trivial⟩).at h⟩
theorem ke_H_shareL9 : chkE GXL9 3000 252 ct_H_shareL9 = true := by decide +kernel
theorem kk_H_shareL9 : Chk GXL9 3000 252 ct_H_shareL9 := ⟨ke_H_shareL9, fun pc as h => (show BT.AllP (fun pc as => ∀ a ∈ as, chkA GXL9 3000 252 ct_H_shareL9 pc a = true) ct_H_shareL9.cut from trivial).at h⟩
theorem ke_Gu_wasToldToAnyL9 : chkE GXL9 3000 253 ct_Gu_wasToldToAnyL9 = true := by decide +kernel
theorem ka_Gu_wasToldToAny_2_0L9 : chkA GXL9 3000 253 ct_Gu_wasToldToAnyL9 2 ca_Gu_wasToldToAny_2_0L9 = true := by decide +kernel
theorem kk_Gu_wasToldToAnyL9 : Chk GXL9 3000 253 ct_Gu_wasToldToAnyL9 := ⟨ke_Gu_wasToldToAnyL9, fun pc as h => (show BT.AllP (fun pc as => ∀ a ∈ as, chkA GXL9 3000 253 ct_Gu_wasToldToAnyL9 pc a = true) ct_Gu_wasToldToAnyL9.cut from ⟨⟨List.forall_mem_cons.mpr ⟨ka_Gu_wasToldToAny_2_0L9, fun a ha => by cases ha⟩, trivial⟩, trivial⟩).at h⟩
theorem ke_Gu_countSetsL9 : chkE GXL9 3000 254 ct_Gu_countSetsL9 = true := by decide +kernel
theorem ka_Gu_countSets_4_0L9 : chkA GXL9 3000 254 ct_Gu_countSetsL9 4 ca_Gu_countSets_4_0L9 = true := by decide +kernel
theorem ka_Gu_countSets_23_0L9 : chkA GXL9 3000 254 ct_Gu_countSetsL9 23 ca_Gu_countSets_23_0 = true := by decide +kernel
theorem kk_Gu_countSetsL9 : Chk GXL9 3000 254 ct_Gu_countSetsL9 := ⟨ke_Gu_countSetsL9, fun pc as h => (show BT.AllP (fun pc as => ∀ a ∈ as, chkA GXL9 3000 254 ct_Gu_countSetsL9 pc a = true) ct_Gu_countSetsL9.cut from ⟨⟨List.forall_mem_cons.mpr ⟨ka_Gu_countSets_4_0L9, fun a ha => by cases ha⟩, trivial⟩, ⟨List.forall_mem_cons.mpr ⟨ka_Gu_countSets_23_0L9, fun a ha => by cases ha⟩, trivial⟩, trivial⟩).at h⟩
theorem ke_H_knowsL9 : chkE GXL9 3000 255 ct_H_knowsL9 = true := by decide +kernel
theorem kk_H_knowsL9 : Chk GXL9 3000 255 ct_H_knowsL9 := ⟨ke_H_knowsL9, fun pc as h => (show BT.AllP (fun pc as => ∀ a ∈ as, chkA GXL9 3000 255 ct_H_knowsL9 pc a = true) ct_H_knowsL9.cut from trivial).at h⟩
theorem ke_H_roomL9 : chkE GXL9 3000 258 ct_H_room = true := by decide +kernel
theorem kk_H_roomL9 : Chk GXL9 3000 258 ct_H_room := ⟨ke_H_roomL9, fun pc as h => (show BT.AllP (fun pc as => ∀ a ∈ as, chkA GXL9 3000 258 ct_H_room pc a = true) ct_H_room.cut from trivial).at h⟩
theorem ke_H_methodL9 : chkE GXL9 3000 260 ct_H_method = true := by decide +kernel
theorem kk_H_methodL9 : Chk GXL9 3000 260 ct_H_method := ⟨ke_H_methodL9, fun pc as h => (show BT.AllP (fun pc as => ∀ a ∈ as, chkA GXL9 3000 260 ct_H_method pc a = true) ct_H_method.cut from trivial).at h⟩
theorem ke_H_opL9 : chkE GXL9 3000 263 ct_H_opL9 = true := by decide +kernel
theorem kk_H_opL9 : Chk GXL9 3000 263 ct_H_opL9 := ⟨ke_H_opL9, fun pc as h => (show BT.AllP (fun pc as => ∀ a ∈ as, chkA GXL9 3000 263 ct_H_opL9 pc a = true) ct_H_opL9.cut from trivial).at h⟩
theorem ke_Ga_lackingOfL9 : chkE GXL9 3000 266 ct_Ga_lackingOfL9 = true := by decide +kernel
theorem ka_Ga_lackingOf_7_0L9 : chkA GXL9 3000 266 ct_Ga_lackingOfL9 7 ca_Ga_lackingOf_7_0L9 = true := by decide +kernel
theorem kk_Ga_lackingOfL9 : Chk GXL9 3000 266 ct_Ga_lackingOfL9 := ⟨ke_Ga_lackingOfL9, fun pc as h => (show BT.AllP (fun pc as => ∀ a ∈ as, chkA GXL9 3000 266 ct_Ga_lackingOfL9 pc a = true) ct_Ga_lackingOfL9.cut from ⟨⟨List.forall_mem_cons.mpr ⟨ka_Ga_lackingOf_7_0L9, fun a ha => by cases ha⟩, trivial⟩, trivial⟩).at h⟩
theorem ke_Ga_throwOutL9 : chkE GXL9 3000 267 ct_Ga_throwOutL9 = true := by decide +kernel
theorem ka_Ga_throwOut_61_0L9 : chkA GXL9 3000 267 ct_Ga_throwOutL9 61 ca_Ga_throwOut_61_0L9 = true := by decide +kernel
