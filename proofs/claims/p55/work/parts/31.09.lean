theorem ka_Ro_firstNotHolding_3_0 : chkA GX 3000 162 ct_Ro_firstNotHolding 3 ca_Ro_firstNotHolding_3_0 = true := by decide +kernel
theorem ka_Ro_firstNotHolding_42_0 : chkA GX 3000 162 ct_Ro_firstNotHolding 42 ca_Ro_firstNotHolding_42_0 = true := by decide +kernel
theorem kk_Ro_firstNotHolding : Chk GX 3000 162 ct_Ro_firstNotHolding := ⟨ke_Ro_firstNotHolding, fun pc as h => (show BT.AllP (fun pc as => ∀ a ∈ as, chkA GX 3000 162 ct_Ro_firstNotHolding pc a = true) ct_Ro_firstNotHolding.cut from ⟨⟨List.forall_mem_cons.mpr ⟨ka_Ro_firstNotHolding_3_0, fun a ha => by cases ha⟩, trivial⟩, ⟨List.forall_mem_cons.mpr ⟨ka_Ro_firstNotHolding_42_0, fun a ha => by cases ha⟩, trivial⟩, trivial⟩).at h⟩
theorem ke_Ro_giveRow : chkE GX 3000 163 ct_Ro_giveRow = true := by decide +kernel
theorem kk_Ro_giveRow : Chk GX 3000 163 ct_Ro_giveRow := ⟨ke_Ro_giveRow, fun pc as h => (show BT.AllP (fun pc as => ∀ a ∈ as, chkA GX 3000 163 ct_Ro_giveRow pc a = true) ct_Ro_giveRow.cut from trivial).at h⟩
theorem ke_H_give : chkE GX 3000 164 ct_H_give = true := by decide +kernel
theorem kk_H_give : Chk GX 3000 164 ct_H_give := ⟨ke_H_give, fun pc as h => (show BT.AllP (fun pc as => ∀ a ∈ as, chkA GX 3000 164 ct_H_give pc a = true) ct_H_give.cut from trivial).at h⟩
theorem ke_Wh_endRows : chkE GX 3000 165 ct_Wh_endRows = true := by decide +kernel
theorem ka_Wh_endRows_6_0 : chkA GX 3000 165 ct_Wh_endRows 6 ca_Wh_endRows_6_0 = true := by decide +kernel
theorem kk_Wh_endRows : Chk GX 3000 165 ct_Wh_endRows := ⟨ke_Wh_endRows, fun pc as h => (show BT.AllP (fun pc as => ∀ a ∈ as, chkA GX 3000 165 ct_Wh_endRows pc a = true) ct_Wh_endRows.cut from ⟨⟨List.forall_mem_cons.mpr ⟨ka_Wh_endRows_6_0, fun a ha => by cases ha⟩, trivial⟩, trivial⟩).at h⟩
theorem ke_H_take : chkE GX 3000 166 ct_H_take = true := by decide +kernel
theorem kk_H_take : Chk GX 3000 166 ct_H_take := ⟨ke_H_take, fun pc as h => (show BT.AllP (fun pc as => ∀ a ∈ as, chkA GX 3000 166 ct_H_take pc a = true) ct_H_take.cut from trivial).at h⟩
theorem ke_H_broken : chkE GX 3000 167 ct_H_broken = true := by decide +kernel
theorem kk_H_broken : Chk GX 3000 167 ct_H_broken := ⟨ke_H_broken, fun pc as h => (show BT.AllP (fun pc as => ∀ a ∈ as, chkA GX 3000 167 ct_H_broken pc a = true) ct_H_broken.cut from trivial).at h⟩
theorem ke_H_breach : chkE GX 3000 168 ct_H_breach = true := by decide +kernel
theorem kk_H_breach : Chk GX 3000 168 ct_H_breach := ⟨ke_H_breach, fun pc as h => (show BT.AllP (fun pc as => ∀ a ∈ as, chkA GX 3000 168 ct_H_breach pc a = true) ct_H_breach.cut from trivial).at h⟩
theorem ke_H_session : chkE GX 3000 170 ct_H_session = true := by decide +kernel
theorem kk_H_session : Chk GX 3000 170 ct_H_session := ⟨ke_H_session, fun pc as h => (show BT.AllP (fun pc as => ∀ a ∈ as, chkA GX 3000 170 ct_H_session pc a = true) ct_H_session.cut from trivial).at h⟩
theorem ke_Ro_turnOn : chkE GX 3000 171 ct_Ro_turnOn = true := by decide +kernel
theorem kk_Ro_turnOn : Chk GX 3000 171 ct_Ro_turnOn := ⟨ke_Ro_turnOn, fun pc as h => (show BT.AllP (fun pc as => ∀ a ∈ as, chkA GX 3000 171 ct_Ro_turnOn pc a = true) ct_Ro_turnOn.cut from trivial).at h⟩
theorem ke_H_switchOn : chkE GX 3000 172 ct_H_switchOn = true := by decide +kernel
theorem kk_H_switchOn : Chk GX 3000 172 ct_H_switchOn := ⟨ke_H_switchOn, fun pc as h => (show BT.AllP (fun pc as => ∀ a ∈ as, chkA GX 3000 172 ct_H_switchOn pc a = true) ct_H_switchOn.cut from trivial).at h⟩
theorem ke_H_switchOff : chkE GX 3000 173 ct_H_switchOff = true := by decide +kernel
theorem kk_H_switchOff : Chk GX 3000 173 ct_H_switchOff := ⟨ke_H_switchOff, fun pc as h => (show BT.AllP (fun pc as => ∀ a ∈ as, chkA GX 3000 173 ct_H_switchOff pc a = true) ct_H_switchOff.cut from trivial).at h⟩
theorem ke_Ro_groupsIn : chkE GX 3000 174 ct_Ro_groupsIn = true := by decide +kernel
theorem kk_Ro_groupsIn : Chk GX 3000 174 ct_Ro_groupsIn := ⟨ke_Ro_groupsIn, fun pc as h => (show BT.AllP (fun pc as => ∀ a ∈ as, chkA GX 3000 174 ct_Ro_groupsIn pc a = true) ct_Ro_groupsIn.cut from trivial).at h⟩
theorem ke_H_askIn : chkE GX 3000 175 ct_H_askIn = true := by decide +kernel
theorem kk_H_askIn : Chk GX 3000 175 ct_H_askIn := ⟨ke_H_askIn, fun pc as h => (show BT.AllP (fun pc as => ∀ a ∈ as, chkA GX 3000 175 ct_H_askIn pc a = true) ct_H_askIn.cut from trivial).at h⟩
theorem ke_H_work : chkE GX 3000 176 ct_H_work = true := by decide +kernel
theorem kk_H_work : Chk GX 3000 176 ct_H_work := ⟨ke_H_work, fun pc as h => (show BT.AllP (fun pc as => ∀ a ∈ as, chkA GX 3000 176 ct_H_work pc a = true) ct_H_work.cut from trivial).at h⟩
theorem ke_H_step : chkE GX 3000 178 ct_H_step = true := by decide +kernel
theorem kk_H_step : Chk GX 3000 178 ct_H_step := ⟨ke_H_step, fun pc as h => (show BT.AllP (fun pc as => ∀ a ∈ as, chkA GX 3000 178 ct_H_step pc a = true) ct_H_step.cut from trivial).at h⟩
theorem ke_H_tie : chkE GX 3000 180 ct_H_tie = true := by decide +kernel
theorem kk_H_tie : Chk GX 3000 180 ct_H_tie := ⟨ke_H_tie, fun pc as h => (show BT.AllP (fun pc as => ∀ a ∈ as, chkA GX 3000 180 ct_H_tie pc a = true) ct_H_tie.cut from trivial).at h⟩
theorem ke_Wo_prepare : chkE GX 3000 182 ct_Wo_prepare = true := by decide +kernel
theorem ka_Wo_prepare_8_0 : chkA GX 3000 182 ct_Wo_prepare 8 ca_Wo_prepare_8_0 = true := by decide +kernel
theorem ka_Wo_prepare_67_0 : chkA GX 3000 182 ct_Wo_prepare 67 ca_Wo_prepare_67_0 = true := by decide +kernel
theorem ka_Wo_prepare_105_0 : chkA GX 3000 182 ct_Wo_prepare 105 ca_Wo_prepare_105_0 = true := by decide +kernel
theorem kk_Wo_prepare : Chk GX 3000 182 ct_Wo_prepare := ⟨ke_Wo_prepare, fun pc as h => (show BT.AllP (fun pc as => ∀ a ∈ as, chkA GX 3000 182 ct_Wo_prepare pc a = true) ct_Wo_prepare.cut from ⟨⟨List.forall_mem_cons.mpr ⟨ka_Wo_prepare_8_0, fun a ha => by cases ha⟩, trivial⟩, ⟨List.forall_mem_cons.mpr ⟨ka_Wo_prepare_67_0, fun a ha => by cases ha⟩, trivial⟩, ⟨List.forall_mem_cons.mpr ⟨ka_Wo_prepare_105_0, fun a ha => by cases ha⟩, trivial⟩, trivial⟩).at h⟩
theorem ke_Wo_hasAnybodyMoreThan : chkE GX 3000 183 ct_Wo_hasAnybodyMoreThan = true := by decide +kernel
theorem ka_Wo_hasAnybodyMoreThan_2_0 : chkA GX 3000 183 ct_Wo_hasAnybodyMoreThan 2 ca_Wo_hasAnybodyMoreThan_2_0 = true := by decide +kernel
theorem ka_Wo_hasAnybodyMoreThan_13_0 : chkA GX 3000 183 ct_Wo_hasAnybodyMoreThan 13 ca_Wo_hasAnybodyMoreThan_13_0 = true := by decide +kernel
theorem kk_Wo_hasAnybodyMoreThan : Chk GX 3000 183 ct_Wo_hasAnybodyMoreThan := ⟨ke_Wo_hasAnybodyMoreThan, fun pc as h => (show BT.AllP (fun pc as => ∀ a ∈ as, chkA GX 3000 183 ct_Wo_hasAnybodyMoreThan pc a = true) ct_Wo_hasAnybodyMoreThan.cut from ⟨⟨List.forall_mem_cons.mpr ⟨ka_Wo_hasAnybodyMoreThan_2_0, fun a ha => by cases ha⟩, trivial⟩, ⟨List.forall_mem_cons.mpr ⟨ka_Wo_hasAnybodyMoreThan_13_0, fun a ha => by cases ha⟩, trivial⟩, trivial⟩).at h⟩
theorem ke_Wo_doTiesHold : chkE GX 3000 184 ct_Wo_doTiesHold = true := by decide +kernel
theorem ka_Wo_doTiesHold_5_0 : chkA GX 3000 184 ct_Wo_doTiesHold 5 ca_Wo_doTiesHold_5_0 = true := by decide +kernel
theorem kk_Wo_doTiesHold : Chk GX 3000 184 ct_Wo_doTiesHold := ⟨ke_Wo_doTiesHold, fun pc as h => (show BT.AllP (fun pc as => ∀ a ∈ as, chkA GX 3000 184 ct_Wo_doTiesHold pc a = true) ct_Wo_doTiesHold.cut from ⟨⟨List.forall_mem_cons.mpr ⟨ka_Wo_doTiesHold_5_0, fun a ha => by cases ha⟩, trivial⟩, trivial⟩).at h⟩
theorem ke_Wo_searchFrom : chkE GX 3000 185 ct_Wo_searchFrom = true := by decide +kernel
theorem ka_Wo_searchFrom_53_0 : chkA GX 3000 185 ct_Wo_searchFrom 53 ca_Wo_searchFrom_53_0 = true := by decide +kernel
theorem kk_Wo_searchFrom : Chk GX 3000 185 ct_Wo_searchFrom := ⟨ke_Wo_searchFrom, fun pc as h => (show BT.AllP (fun pc as => ∀ a ∈ as, chkA GX 3000 185 ct_Wo_searchFrom pc a = true) ct_Wo_searchFrom.cut from ⟨⟨List.forall_mem_cons.mpr ⟨ka_Wo_searchFrom_53_0, fun a ha => by cases ha⟩, trivial⟩, trivial⟩).at h⟩
theorem ke_Wo_search : chkE GX 3000 186 ct_Wo_search = true := by decide +kernel
theorem kk_Wo_search : Chk GX 3000 186 ct_Wo_search := ⟨ke_Wo_search, fun pc as h => (show BT.AllP (fun pc as => ∀ a ∈ as, chkA GX 3000 186 ct_Wo_search pc a = true) ct_Wo_search.cut from trivial).at h⟩
theorem ke_Wo_keep : chkE GX 3000 187 ct_Wo_keep = true := by decide +kernel
theorem ka_Wo_keep_2_0 : chkA GX 3000 187 ct_Wo_keep 2 ca_Wo_keep_2_0 = true := by decide +kernel
theorem kk_Wo_keep : Chk GX 3000 187 ct_Wo_keep := ⟨ke_Wo_keep, fun pc as h => (show BT.AllP (fun pc as => ∀ a ∈ as, chkA GX 3000 187 ct_Wo_keep pc a = true) ct_Wo_keep.cut from ⟨⟨List.forall_mem_cons.mpr ⟨ka_Wo_keep_2_0, fun a ha => by cases ha⟩, trivial⟩, trivial⟩).at h⟩
theorem ke_H_fill : chkE GX 3000 188 ct_H_fill = true := by decide +kernel
theorem kk_H_fill : Chk GX 3000 188 ct_H_fill := ⟨ke_H_fill, fun pc as h => (show BT.AllP (fun pc as => ∀ a ∈ as, chkA GX 3000 188 ct_H_fill pc a = true) ct_H_fill.cut from trivial).at h⟩
theorem ke_H_filled : chkE GX 3000 189 ct_H_filled = true := by decide +kernel
theorem kk_H_filled : Chk GX 3000 189 ct_H_filled := ⟨ke_H_filled, fun pc as h => (show BT.AllP (fun pc as => ∀ a ∈ as, chkA GX 3000 189 ct_H_filled pc a = true) ct_H_filled.cut from trivial).at h⟩
theorem ke_Wo_searchWith : chkE GX 3000 190 ct_Wo_searchWith = true := by decide +kernel
theorem kk_Wo_searchWith : Chk GX 3000 190 ct_Wo_searchWith := ⟨ke_Wo_searchWith, fun pc as h => (show BT.AllP (fun pc as => ∀ a ∈ as, chkA GX 3000 190 ct_Wo_searchWith pc a = true) ct_Wo_searchWith.cut from trivial).at h⟩
theorem ke_H_next : chkE GX 3000 191 ct_H_next = true := by decide +kernel
theorem kk_H_next : Chk GX 3000 191 ct_H_next := ⟨ke_H_next, fun pc as h => (show BT.AllP (fun pc as => ∀ a ∈ as, chkA GX 3000 191 ct_H_next pc a = true) ct_H_next.cut from trivial).at h⟩
theorem ke_H_perform : chkE GX 3000 192 ct_H_perform = true := by decide +kernel
theorem kk_H_perform : Chk GX 3000 192 ct_H_perform := ⟨ke_H_perform, fun pc as h => (show BT.AllP (fun pc as => ∀ a ∈ as, chkA GX 3000 192 ct_H_perform pc a = true) ct_H_perform.cut from trivial).at h⟩
theorem ke_Wo_hasDone : chkE GX 3000 193 ct_Wo_hasDone = true := by decide +kernel
theorem ka_Wo_hasDone_2_0 : chkA GX 3000 193 ct_Wo_hasDone 2 ca_Wo_hasDone_2_0 = true := by decide +kernel
theorem kk_Wo_hasDone : Chk GX 3000 193 ct_Wo_hasDone := ⟨ke_Wo_hasDone, fun pc as h => (show BT.AllP (fun pc as => ∀ a ∈ as, chkA GX 3000 193 ct_Wo_hasDone pc a = true) ct_Wo_hasDone.cut from ⟨⟨List.forall_mem_cons.mpr ⟨ka_Wo_hasDone_2_0, fun a ha => by cases ha⟩, trivial⟩, trivial⟩).at h⟩
theorem ke_H_needed : chkE GX 3000 194 ct_H_needed = true := by decide +kernel
theorem kk_H_needed : Chk GX 3000 194 ct_H_needed := ⟨ke_H_needed, fun pc as h => (show BT.AllP (fun pc as => ∀ a ∈ as, chkA GX 3000 194 ct_H_needed pc a = true) ct_H_needed.cut from trivial).at h⟩
theorem ke_H_tries : chkE GX 3000 195 ct_H_tries = true := by decide +kernel
theorem kk_H_tries : Chk GX 3000 195 ct_H_tries := ⟨ke_H_tries, fun pc as h => (show BT.AllP (fun pc as => ∀ a ∈ as, chkA GX 3000 195 ct_H_tries pc a = true) ct_H_tries.cut from trivial).at h⟩
theorem ke_H_lendOf : chkE GX 3000 207 ct_H_lendOf = true := by decide +kernel
theorem kk_H_lendOf : Chk GX 3000 207 ct_H_lendOf := ⟨ke_H_lendOf, fun pc as h => (show BT.AllP (fun pc as => ∀ a ∈ as, chkA GX 3000 207 ct_H_lendOf pc a = true) ct_H_lendOf.cut from trivial).at h⟩
theorem ke_H_key : chkE GX 3000 210 ct_H_key = true := by decide +kernel
theorem kk_H_key : Chk GX 3000 210 ct_H_key := ⟨ke_H_key, fun pc as h => (show BT.AllP (fun pc as => ∀ a ∈ as, chkA GX 3000 210 ct_H_key pc a = true) ct_H_key.cut from trivial).at h⟩
theorem ke_Le_pass : chkE GX 3000 211 ct_Le_pass = true := by decide +kernel
theorem kk_Le_pass : Chk GX 3000 211 ct_Le_pass := ⟨ke_Le_pass, fun pc as h => (show BT.AllP (fun pc as => ∀ a ∈ as, chkA GX 3000 211 ct_Le_pass pc a = true) ct_Le_pass.cut from trivial).at h⟩
theorem ke_Le_goRound : chkE GX 3000 212 ct_Le_goRound = true := by decide +kernel
theorem ka_Le_goRound_2_0 : chkA GX 3000 212 ct_Le_goRound 2 ca_Le_goRound_2_0 = true := by decide +kernel
theorem ka_Le_goRound_10_0 : chkA GX 3000 212 ct_Le_goRound 10 ca_Le_goRound_10_0 = true := by decide +kernel
theorem ka_Le_goRound_18_0 : chkA GX 3000 212 ct_Le_goRound 18 ca_Le_goRound_18_0 = true := by decide +kernel
theorem kk_Le_goRound : Chk GX 3000 212 ct_Le_goRound := ⟨ke_Le_goRound, fun pc as h => (show BT.AllP (fun pc as => ∀ a ∈ as, chkA GX 3000 212 ct_Le_goRound pc a = true) ct_Le_goRound.cut from ⟨⟨List.forall_mem_cons.mpr ⟨ka_Le_goRound_2_0, fun a ha => by cases ha⟩, trivial⟩, ⟨List.forall_mem_cons.mpr ⟨ka_Le_goRound_10_0, fun a ha => by cases ha⟩, trivial⟩, ⟨List.forall_mem_cons.mpr ⟨ka_Le_goRound_18_0, fun a ha => by cases ha⟩, trivial⟩, trivial⟩).at h⟩
theorem ke_Le_countGains : chkE GX 3000 213 ct_Le_countGains = true := by decide +kernel
theorem ka_Le_countGains_24_0 : chkA GX 3000 213 ct_Le_countGains 24 ca_Le_countGains_24_0 = true := by decide +kernel
theorem ka_Le_countGains_51_0 : chkA GX 3000 213 ct_Le_countGains 51 ca_Le_countGains_51_0 = true := by decide +kernel
theorem kk_Le_countGains : Chk GX 3000 213 ct_Le_countGains := ⟨ke_Le_countGains, fun pc as h => (show BT.AllP (fun pc as => ∀ a ∈ as, chkA GX 3000 213 ct_Le_countGains pc a = true) ct_Le_countGains.cut from ⟨⟨List.forall_mem_cons.mpr ⟨ka_Le_countGains_24_0, fun a ha => by cases ha⟩, trivial⟩, ⟨List.forall_mem_cons.mpr ⟨ka_Le_countGains_51_0, fun a ha => by cases ha⟩, trivial⟩, trivial⟩).at h⟩
theorem ke_Le_gainsUntil : chkE GX 3000 214 ct_Le_gainsUntil = true := by decide +kernel
theorem ka_Le_gainsUntil_33_0 : chkA GX 3000 214 ct_Le_gainsUntil 33 ca_Le_gainsUntil_33_0 = true := by decide +kernel
theorem kk_Le_gainsUntil : Chk GX 3000 214 ct_Le_gainsUntil := ⟨ke_Le_gainsUntil, fun pc as h => (show BT.AllP (fun pc as => ∀ a ∈ as, chkA GX 3000 214 ct_Le_gainsUntil pc a = true) ct_Le_gainsUntil.cut from ⟨⟨List.forall_mem_cons.mpr ⟨ka_Le_gainsUntil_33_0, fun a ha => by cases ha⟩, trivial⟩, trivial⟩).at h⟩
theorem ke_H_ever : chkE GX 3000 215 ct_H_ever = true := by decide +kernel
theorem kk_H_ever : Chk GX 3000 215 ct_H_ever := ⟨ke_H_ever, fun pc as h => (show BT.AllP (fun pc as => ∀ a ∈ as, chkA GX 3000 215 ct_H_ever pc a = true) ct_H_ever.cut from trivial).at h⟩
theorem ke_H_gain : chkE GX 3000 216 ct_H_gain = true := by decide +kernel
theorem kk_H_gain : Chk GX 3000 216 ct_H_gain := ⟨ke_H_gain, fun pc as h => (show BT.AllP (fun pc as => ∀ a ∈ as, chkA GX 3000 216 ct_H_gain pc a = true) ct_H_gain.cut from trivial).at h⟩
theorem ke_H_label : chkE GX 3000 217 ct_H_label = true := by decide +kernel
theorem kk_H_label : Chk GX 3000 217 ct_H_label := ⟨ke_H_label, fun pc as h => (show BT.AllP (fun pc as => ∀ a ∈ as, chkA GX 3000 217 ct_H_label pc a = true) ct_H_label.cut from trivial).at h⟩
theorem ke_Fl_reachesOut : chkE GX 3000 222 ct_Fl_reachesOut = true := by decide +kernel
theorem ka_Fl_reachesOut_8_0 : chkA GX 3000 222 ct_Fl_reachesOut 8 ca_Fl_reachesOut_8_0 = true := by decide +kernel
theorem kk_Fl_reachesOut : Chk GX 3000 222 ct_Fl_reachesOut := ⟨ke_Fl_reachesOut, fun pc as h => (show BT.AllP (fun pc as => ∀ a ∈ as, chkA GX 3000 222 ct_Fl_reachesOut pc a = true) ct_Fl_reachesOut.cut from ⟨⟨List.forall_mem_cons.mpr ⟨ka_Fl_reachesOut_8_0, fun a ha => by cases ha⟩, trivial⟩, trivial⟩).at h⟩
theorem ke_H_statement : chkE GX 3000 224 ct_H_statement = true := by decide +kernel
theorem kk_H_statement : Chk GX 3000 224 ct_H_statement := ⟨ke_H_statement, fun pc as h => (show BT.AllP (fun pc as => ∀ a ∈ as, chkA GX 3000 224 ct_H_statement pc a = true) ct_H_statement.cut from trivial).at h⟩
theorem ke_H_erase : chkE GX 3000 225 ct_H_erase = true := by decide +kernel
theorem kk_H_erase : Chk GX 3000 225 ct_H_erase := ⟨ke_H_erase, fun pc as h => (show BT.AllP (fun pc as => ∀ a ∈ as, chkA GX 3000 225 ct_H_erase pc a = true) ct_H_erase.cut from trivial).at h⟩
theorem ke_Fl_isTight : chkE GX 3000 227 ct_Fl_isTight = true := by decide +kernel
theorem ka_Fl_isTight_6_0 : chkA GX 3000 227 ct_Fl_isTight 6 ca_Fl_isTight_6_0 = true := by decide +kernel
theorem kk_Fl_isTight : Chk GX 3000 227 ct_Fl_isTight := ⟨ke_Fl_isTight, fun pc as h => (show BT.AllP (fun pc as => ∀ a ∈ as, chkA GX 3000 227 ct_Fl_isTight pc a = true) ct_Fl_isTight.cut from ⟨⟨List.forall_mem_cons.mpr ⟨ka_Fl_isTight_6_0, fun a ha => by cases ha⟩, trivial⟩, trivial⟩).at h⟩
theorem ke_Fl_firstLoose : chkE GX 3000 228 ct_Fl_firstLoose = true := by decide +kernel
theorem ka_Fl_firstLoose_2_0 : chkA GX 3000 228 ct_Fl_firstLoose 2 ca_Fl_firstLoose_2_0 = true := by decide +kernel
theorem kk_Fl_firstLoose : Chk GX 3000 228 ct_Fl_firstLoose := ⟨ke_Fl_firstLoose, fun pc as h => (show BT.AllP (fun pc as => ∀ a ∈ as, chkA GX 3000 228 ct_Fl_firstLoose pc a = true) ct_Fl_firstLoose.cut from ⟨⟨List.forall_mem_cons.mpr ⟨ka_Fl_firstLoose_2_0, fun a ha => by cases ha⟩, trivial⟩, trivial⟩).at h⟩
theorem ke_H_tight : chkE GX 3000 229 ct_H_tight = true := by decide +kernel
theorem kk_H_tight : Chk GX 3000 229 ct_H_tight := ⟨ke_H_tight, fun pc as h => (show BT.AllP (fun pc as => ∀ a ∈ as, chkA GX 3000 229 ct_H_tight pc a = true) ct_H_tight.cut from trivial).at h⟩
theorem ke_Fl_countLowers : chkE GX 3000 230 ct_Fl_countLowers = true := by decide +kernel
theorem ka_Fl_countLowers_4_0 : chkA GX 3000 230 ct_Fl_countLowers 4 ca_Fl_countLowers_4_0 = true := by decide +kernel
theorem kk_Fl_countLowers : Chk GX 3000 230 ct_Fl_countLowers := ⟨ke_Fl_countLowers, fun pc as h => (show BT.AllP (fun pc as => ∀ a ∈ as, chkA GX 3000 230 ct_Fl_countLowers pc a = true) ct_Fl_countLowers.cut from ⟨⟨List.forall_mem_cons.mpr ⟨ka_Fl_countLowers_4_0, fun a ha => by cases ha⟩, trivial⟩, trivial⟩).at h⟩
theorem ke_H_lowered : chkE GX 3000 231 ct_H_lowered = true := by decide +kernel
theorem kk_H_lowered : Chk GX 3000 231 ct_H_lowered := ⟨ke_H_lowered, fun pc as h => (show BT.AllP (fun pc as => ∀ a ∈ as, chkA GX 3000 231 ct_H_lowered pc a = true) ct_H_lowered.cut from trivial).at h⟩
theorem ke_H_given : chkE GX 3000 232 ct_H_given = true := by decide +kernel
theorem kk_H_given : Chk GX 3000 232 ct_H_given := ⟨ke_H_given, fun pc as h => (show BT.AllP (fun pc as => ∀ a ∈ as, chkA GX 3000 232 ct_H_given pc a = true) ct_H_given.cut from trivial).at h⟩
theorem ke_Fl_runOne : chkE GX 3000 236 ct_Fl_runOne = true := by decide +kernel
theorem kk_Fl_runOne : Chk GX 3000 236 ct_Fl_runOne := ⟨ke_Fl_runOne, fun pc as h => (show BT.AllP (fun pc as => ∀ a ∈ as, chkA GX 3000 236 ct_Fl_runOne pc a = true) ct_Fl_runOne.cut from trivial).at h⟩
theorem ke_Fl_run : chkE GX 3000 237 ct_Fl_run = true := by decide +kernel
theorem ka_Fl_run_2_0 : chkA GX 3000 237 ct_Fl_run 2 ca_Fl_run_2_0 = true := by decide +kernel
theorem ka_Fl_run_28_0 : chkA GX 3000 237 ct_Fl_run 28 ca_Fl_run_28_0 = true := by decide +kernel
theorem ka_Fl_run_55_0 : chkA GX 3000 237 ct_Fl_run 55 ca_Fl_run_55_0 = true := by decide +kernel
theorem kk_Fl_run : Chk GX 3000 237 ct_Fl_run := ⟨ke_Fl_run, fun pc as h => (show BT.AllP (fun pc as => ∀ a ∈ as, chkA GX 3000 237 ct_Fl_run pc a = true) ct_Fl_run.cut from ⟨⟨List.forall_mem_cons.mpr ⟨ka_Fl_run_2_0, fun a ha => by cases ha⟩, trivial⟩, ⟨List.forall_mem_cons.mpr ⟨ka_Fl_run_28_0, fun a ha => by cases ha⟩, trivial⟩, ⟨List.forall_mem_cons.mpr ⟨ka_Fl_run_55_0, fun a ha => by cases ha⟩, trivial⟩, trivial⟩).at h⟩
theorem ke_H_flow : chkE GX 3000 238 ct_H_flow = true := by decide +kernel
theorem kk_H_flow : Chk GX 3000 238 ct_H_flow := ⟨ke_H_flow, fun pc as h => (show BT.AllP (fun pc as => ∀ a ∈ as, chkA GX 3000 238 ct_H_flow pc a = true) ct_H_flow.cut from trivial).at h⟩
theorem ke_H_said : chkE GX 3000 239 ct_H_said = true := by decide +kernel
theorem kk_H_said : Chk GX 3000 239 ct_H_said := ⟨ke_H_said, fun pc as h => (show BT.AllP (fun pc as => ∀ a ∈ as, chkA GX 3000 239 ct_H_said pc a = true) ct_H_said.cut from trivial).at h⟩
theorem ke_H_variable : chkE GX 3000 240 ct_H_variable = true := by decide +kernel
theorem kk_H_variable : Chk GX 3000 240 ct_H_variable := ⟨ke_H_variable, fun pc as h => (show BT.AllP (fun pc as => ∀ a ∈ as, chkA GX 3000 240 ct_H_variable pc a = true) ct_H_variable.cut from trivial).at h⟩
theorem ke_H_guarded : chkE GX 3000 242 ct_H_guarded = true := by decide +kernel
theorem kk_H_guarded : Chk GX 3000 242 ct_H_guarded := ⟨ke_H_guarded, fun pc as h => (show BT.AllP (fun pc as => ∀ a ∈ as, chkA GX 3000 242 ct_H_guarded pc a = true) ct_H_guarded.cut from trivial).at h⟩
theorem ke_Gu_wasTold : chkE GX 3000 243 ct_Gu_wasTold = true := by decide +kernel
theorem ka_Gu_wasTold_2_0 : chkA GX 3000 243 ct_Gu_wasTold 2 ca_Gu_wasTold_2_0 = true := by decide +kernel
theorem kk_Gu_wasTold : Chk GX 3000 243 ct_Gu_wasTold := ⟨ke_Gu_wasTold, fun pc as h => (show BT.AllP (fun pc as => ∀ a ∈ as, chkA GX 3000 243 ct_Gu_wasTold pc a = true) ct_Gu_wasTold.cut from ⟨⟨List.forall_mem_cons.mpr ⟨ka_Gu_wasTold_2_0, fun a ha => by cases ha⟩, trivial⟩, trivial⟩).at h⟩
theorem ke_Gu_total : chkE GX 3000 244 ct_Gu_total = true := by decide +kernel
theorem ka_Gu_total_5_0 : chkA GX 3000 244 ct_Gu_total 5 ca_Gu_total_5_0 = true := by decide +kernel
theorem kk_Gu_total : Chk GX 3000 244 ct_Gu_total := ⟨ke_Gu_total, fun pc as h => (show BT.AllP (fun pc as => ∀ a ∈ as, chkA GX 3000 244 ct_Gu_total pc a = true) ct_Gu_total.cut from ⟨⟨List.forall_mem_cons.mpr ⟨ka_Gu_total_5_0, fun a ha => by cases ha⟩, trivial⟩, trivial⟩).at h⟩
theorem ke_Gu_reduce : chkE GX 3000 245 ct_Gu_reduce = true := by decide +kernel
theorem ka_Gu_reduce_6_0 : chkA GX 3000 245 ct_Gu_reduce 6 ca_Gu_reduce_6_0 = true := by decide +kernel
theorem ka_Gu_reduce_26_0 : chkA GX 3000 245 ct_Gu_reduce 26 ca_Gu_reduce_26_0 = true := by decide +kernel
theorem kk_Gu_reduce : Chk GX 3000 245 ct_Gu_reduce := ⟨ke_Gu_reduce, fun pc as h => (show BT.AllP (fun pc as => ∀ a ∈ as, chkA GX 3000 245 ct_Gu_reduce pc a = true) ct_Gu_reduce.cut from ⟨⟨List.forall_mem_cons.mpr ⟨ka_Gu_reduce_6_0, fun a ha => by cases ha⟩, trivial⟩, ⟨List.forall_mem_cons.mpr ⟨ka_Gu_reduce_26_0, fun a ha => by cases ha⟩, trivial⟩, trivial⟩).at h⟩
theorem ke_Gu_addRow : chkE GX 3000 246 ct_Gu_addRow = true := by decide +kernel
theorem ka_Gu_addRow_33_0 : chkA GX 3000 246 ct_Gu_addRow 33 ca_Gu_addRow_33_0 = true := by decide +kernel
theorem ka_Gu_addRow_54_0 : chkA GX 3000 246 ct_Gu_addRow 54 ca_Gu_addRow_54_0 = true := by decide +kernel
theorem ka_Gu_addRow_116_0 : chkA GX 3000 246 ct_Gu_addRow 116 ca_Gu_addRow_116_0 = true := by decide +kernel
theorem kk_Gu_addRow : Chk GX 3000 246 ct_Gu_addRow := ⟨ke_Gu_addRow, fun pc as h => (show BT.AllP (fun pc as => ∀ a ∈ as, chkA GX 3000 246 ct_Gu_addRow pc a = true) ct_Gu_addRow.cut from ⟨⟨List.forall_mem_cons.mpr ⟨ka_Gu_addRow_33_0, fun a ha => by cases ha⟩, trivial⟩, ⟨List.forall_mem_cons.mpr ⟨ka_Gu_addRow_54_0, fun a ha => by cases ha⟩, trivial⟩, ⟨List.forall_mem_cons.mpr ⟨ka_Gu_addRow_116_0, fun a ha => by cases ha⟩, trivial⟩, trivial⟩).at h⟩
theorem ke_Gu_rankOf : chkE GX 3000 247 ct_Gu_rankOf = true := by decide +kernel
theorem ka_Gu_rankOf_12_0 : chkA GX 3000 247 ct_Gu_rankOf 12 ca_Gu_rankOf_12_0 = true := by decide +kernel
theorem ka_Gu_rankOf_28_0 : chkA GX 3000 247 ct_Gu_rankOf 28 ca_Gu_rankOf_28_0 = true := by decide +kernel
theorem kk_Gu_rankOf : Chk GX 3000 247 ct_Gu_rankOf := ⟨ke_Gu_rankOf, fun pc as h => (show BT.AllP (fun pc as => ∀ a ∈ as, chkA GX 3000 247 ct_Gu_rankOf pc a = true) ct_Gu_rankOf.cut from ⟨⟨List.forall_mem_cons.mpr ⟨ka_Gu_rankOf_12_0, fun a ha => by cases ha⟩, trivial⟩, ⟨List.forall_mem_cons.mpr ⟨ka_Gu_rankOf_28_0, fun a ha => by cases ha⟩, trivial⟩, trivial⟩).at h⟩
theorem ke_Gu_wouldReveal : chkE GX 3000 248 ct_Gu_wouldReveal = true := by decide +kernel
theorem ka_Gu_wouldReveal_13_0 : chkA GX 3000 248 ct_Gu_wouldReveal 13 ca_Gu_wouldReveal_13_0 = true := by decide +kernel
theorem ka_Gu_wouldReveal_27_0 : chkA GX 3000 248 ct_Gu_wouldReveal 27 ca_Gu_wouldReveal_27_0 = true := by decide +kernel
theorem kk_Gu_wouldReveal : Chk GX 3000 248 ct_Gu_wouldReveal := ⟨ke_Gu_wouldReveal, fun pc as h => (show BT.AllP (fun pc as => ∀ a ∈ as, chkA GX 3000 248 ct_Gu_wouldReveal pc a = true) ct_Gu_wouldReveal.cut from ⟨⟨List.forall_mem_cons.mpr ⟨ka_Gu_wouldReveal_13_0, fun a ha => by cases ha⟩, trivial⟩, ⟨List.forall_mem_cons.mpr ⟨ka_Gu_wouldReveal_27_0, fun a ha => by cases ha⟩, trivial⟩, trivial⟩).at h⟩
theorem ke_H_sum : chkE GX 3000 250 ct_H_sum = true := by decide +kernel
theorem kk_H_sum : Chk GX 3000 250 ct_H_sum := ⟨ke_H_sum, fun pc as h => (show BT.AllP (fun pc as => ∀ a ∈ as, chkA GX 3000 250 ct_H_sum pc a = true) ct_H_sum.cut from trivial).at h⟩
theorem ke_Gu_join : chkE GX 3000 251 ct_Gu_join = true := by decide +kernel
theorem ka_Gu_join_2_0 : chkA GX 3000 251 ct_Gu_join 2 ca_Gu_join_2_0 = true := by decide +kernel
theorem kk_Gu_join : Chk GX 3000 251 ct_Gu_join := ⟨ke_Gu_join, fun pc as h => (show BT.AllP (fun pc as => ∀ a ∈ as, chkA GX 3000 251 ct_Gu_join pc a = true) ct_Gu_join.cut from ⟨⟨List.forall_mem_cons.mpr ⟨ka_Gu_join_2_0, fun a ha => by cases ha⟩, trivial⟩, trivial⟩).at h⟩
theorem ke_H_share : chkE GX 3000 252 ct_H_share = true := by decide +kernel
theorem kk_H_share : Chk GX 3000 252 ct_H_share := ⟨ke_H_share, fun pc as h => (show BT.AllP (fun pc as => ∀ a ∈ as, chkA GX 3000 252 ct_H_share pc a = true) ct_H_share.cut from trivial).at h⟩
theorem ke_Gu_wasToldToAny : chkE GX 3000 253 ct_Gu_wasToldToAny = true := by decide +kernel
theorem ka_Gu_wasToldToAny_2_0 : chkA GX 3000 253 ct_Gu_wasToldToAny 2 ca_Gu_wasToldToAny_2_0 = true := by decide +kernel
theorem kk_Gu_wasToldToAny : Chk GX 3000 253 ct_Gu_wasToldToAny := ⟨ke_Gu_wasToldToAny, fun pc as h => (show BT.AllP (fun pc as => ∀ a ∈ as, chkA GX 3000 253 ct_Gu_wasToldToAny pc a = true) ct_Gu_wasToldToAny.cut from ⟨⟨List.forall_mem_cons.mpr ⟨ka_Gu_wasToldToAny_2_0, fun a ha => by cases ha⟩, trivial⟩, trivial⟩).at h⟩
theorem ke_Gu_countSets : chkE GX 3000 254 ct_Gu_countSets = true := by decide +kernel
theorem ka_Gu_countSets_4_0 : chkA GX 3000 254 ct_Gu_countSets 4 ca_Gu_countSets_4_0 = true := by decide +kernel
theorem ka_Gu_countSets_23_0 : chkA GX 3000 254 ct_Gu_countSets 23 ca_Gu_countSets_23_0 = true := by decide +kernel
theorem kk_Gu_countSets : Chk GX 3000 254 ct_Gu_countSets := ⟨ke_Gu_countSets, fun pc as h => (show BT.AllP (fun pc as => ∀ a ∈ as, chkA GX 3000 254 ct_Gu_countSets pc a = true) ct_Gu_countSets.cut from ⟨⟨List.forall_mem_cons.mpr ⟨ka_Gu_countSets_4_0, fun a ha => by cases ha⟩, trivial⟩, ⟨List.forall_mem_cons.mpr ⟨ka_Gu_countSets_23_0, fun a ha => by cases ha⟩, trivial⟩, trivial⟩).at h⟩
theorem ke_H_knows : chkE GX 3000 255 ct_H_knows = true := by decide +kernel
theorem kk_H_knows : Chk GX 3000 255 ct_H_knows := ⟨ke_H_knows, fun pc as h => (show BT.AllP (fun pc as => ∀ a ∈ as, chkA GX 3000 255 ct_H_knows pc a = true) ct_H_knows.cut from trivial).at h⟩
theorem ke_H_room : chkE GX 3000 258 ct_H_room = true := by decide +kernel
theorem kk_H_room : Chk GX 3000 258 ct_H_room := ⟨ke_H_room, fun pc as h => (show BT.AllP (fun pc as => ∀ a ∈ as, chkA GX 3000 258 ct_H_room pc a = true) ct_H_room.cut from trivial).at h⟩
theorem ke_H_method : chkE GX 3000 260 ct_H_method = true := by decide +kernel
theorem kk_H_method : Chk GX 3000 260 ct_H_method := ⟨ke_H_method, fun pc as h => (show BT.AllP (fun pc as => ∀ a ∈ as, chkA GX 3000 260 ct_H_method pc a = true) ct_H_method.cut from trivial).at h⟩
theorem ke_H_op : chkE GX 3000 263 ct_H_op = true := by decide +kernel
theorem kk_H_op : Chk GX 3000 263 ct_H_op := ⟨ke_H_op, fun pc as h => (show BT.AllP (fun pc as => ∀ a ∈ as, chkA GX 3000 263 ct_H_op pc a = true) ct_H_op.cut from trivial).at h⟩
theorem ke_Ga_lackingOf : chkE GX 3000 266 ct_Ga_lackingOf = true := by decide +kernel
theorem ka_Ga_lackingOf_7_0 : chkA GX 3000 266 ct_Ga_lackingOf 7 ca_Ga_lackingOf_7_0 = true := by decide +kernel
theorem kk_Ga_lackingOf : Chk GX 3000 266 ct_Ga_lackingOf := ⟨ke_Ga_lackingOf, fun pc as h => (show BT.AllP (fun pc as => ∀ a ∈ as, chkA GX 3000 266 ct_Ga_lackingOf pc a = true) ct_Ga_lackingOf.cut from ⟨⟨List.forall_mem_cons.mpr ⟨ka_Ga_lackingOf_7_0, fun a ha => by cases ha⟩, trivial⟩, trivial⟩).at h⟩
theorem ke_Ga_throwOut : chkE GX 3000 267 ct_Ga_throwOut = true := by decide +kernel
theorem ka_Ga_throwOut_61_0 : chkA GX 3000 267 ct_Ga_throwOut 61 ca_Ga_throwOut_61_0 = true := by decide +kernel
theorem ka_Ga_throwOut_61_1 : chkA GX 3000 267 ct_Ga_throwOut 61 ca_Ga_throwOut_61_1 = true := by decide +kernel
theorem ka_Ga_throwOut_61_2 : chkA GX 3000 267 ct_Ga_throwOut 61 ca_Ga_throwOut_61_2 = true := by decide +kernel
theorem kk_Ga_throwOut : Chk GX 3000 267 ct_Ga_throwOut := ⟨ke_Ga_throwOut, fun pc as h => (show BT.AllP (fun pc as => ∀ a ∈ as, chkA GX 3000 267 ct_Ga_throwOut pc a = true) ct_Ga_throwOut.cut from ⟨⟨List.forall_mem_cons.mpr ⟨ka_Ga_throwOut_61_0, List.forall_mem_cons.mpr ⟨ka_Ga_throwOut_61_1, List.forall_mem_cons.mpr ⟨ka_Ga_throwOut_61_2, fun a ha => by cases ha⟩⟩⟩, trivial⟩, trivial⟩).at h⟩
