theorem ke_Ro_doesLawHold : chkE GX 3000 160 ct_Ro_doesLawHold = true := by decide +kernel
theorem ka_Ro_doesLawHold_42_0 : chkA GX 3000 160 ct_Ro_doesLawHold 42 ca_Ro_doesLawHold_42_0 = true := by decide +kernel
theorem kk_Ro_doesLawHold : Chk GX 3000 160 ct_Ro_doesLawHold := ⟨ke_Ro_doesLawHold, fun pc as h => (show BT.AllP (fun pc as => ∀ a ∈ as, chkA GX 3000 160 ct_Ro_doesLawHold pc a = true) ct_Ro_doesLawHold.cut from ⟨⟨List.forall_mem_cons.mpr ⟨ka_Ro_doesLawHold_42_0, fun a ha => by cases ha⟩, trivial⟩, trivial⟩).at h⟩
theorem ke_Ro_firstNotHolding : chkE GX 3000 161 ct_Ro_firstNotHolding = true := by decide +kernel
theorem ka_Ro_firstNotHolding_3_0 : chkA GX 3000 161 ct_Ro_firstNotHolding 3 ca_Ro_firstNotHolding_3_0 = true := by decide +kernel
theorem ka_Ro_firstNotHolding_42_0 : chkA GX 3000 161 ct_Ro_firstNotHolding 42 ca_Ro_firstNotHolding_42_0 = true := by decide +kernel
theorem kk_Ro_firstNotHolding : Chk GX 3000 161 ct_Ro_firstNotHolding := ⟨ke_Ro_firstNotHolding, fun pc as h => (show BT.AllP (fun pc as => ∀ a ∈ as, chkA GX 3000 161 ct_Ro_firstNotHolding pc a = true) ct_Ro_firstNotHolding.cut from ⟨⟨List.forall_mem_cons.mpr ⟨ka_Ro_firstNotHolding_3_0, fun a ha => by cases ha⟩, trivial⟩, ⟨List.forall_mem_cons.mpr ⟨ka_Ro_firstNotHolding_42_0, fun a ha => by cases ha⟩, trivial⟩, trivial⟩).at h⟩
theorem ke_Ro_giveRow : chkE GX 3000 162 ct_Ro_giveRow = true := by decide +kernel
theorem kk_Ro_giveRow : Chk GX 3000 162 ct_Ro_giveRow := ⟨ke_Ro_giveRow, fun pc as h => (show BT.AllP (fun pc as => ∀ a ∈ as, chkA GX 3000 162 ct_Ro_giveRow pc a = true) ct_Ro_giveRow.cut from trivial).at h⟩
theorem ke_H_give : chkE GX 3000 163 ct_H_give = true := by decide +kernel
theorem kk_H_give : Chk GX 3000 163 ct_H_give := ⟨ke_H_give, fun pc as h => (show BT.AllP (fun pc as => ∀ a ∈ as, chkA GX 3000 163 ct_H_give pc a = true) ct_H_give.cut from trivial).at h⟩
theorem ke_Wh_endRows : chkE GX 3000 164 ct_Wh_endRows = true := by decide +kernel
theorem ka_Wh_endRows_6_0 : chkA GX 3000 164 ct_Wh_endRows 6 ca_Wh_endRows_6_0 = true := by decide +kernel
theorem kk_Wh_endRows : Chk GX 3000 164 ct_Wh_endRows := ⟨ke_Wh_endRows, fun pc as h => (show BT.AllP (fun pc as => ∀ a ∈ as, chkA GX 3000 164 ct_Wh_endRows pc a = true) ct_Wh_endRows.cut from ⟨⟨List.forall_mem_cons.mpr ⟨ka_Wh_endRows_6_0, fun a ha => by cases ha⟩, trivial⟩, trivial⟩).at h⟩
theorem ke_H_take : chkE GX 3000 165 ct_H_take = true := by decide +kernel
theorem kk_H_take : Chk GX 3000 165 ct_H_take := ⟨ke_H_take, fun pc as h => (show BT.AllP (fun pc as => ∀ a ∈ as, chkA GX 3000 165 ct_H_take pc a = true) ct_H_take.cut from trivial).at h⟩
theorem ke_H_broken : chkE GX 3000 166 ct_H_broken = true := by decide +kernel
theorem kk_H_broken : Chk GX 3000 166 ct_H_broken := ⟨ke_H_broken, fun pc as h => (show BT.AllP (fun pc as => ∀ a ∈ as, chkA GX 3000 166 ct_H_broken pc a = true) ct_H_broken.cut from trivial).at h⟩
theorem ke_H_breach : chkE GX 3000 167 ct_H_breach = true := by decide +kernel
theorem kk_H_breach : Chk GX 3000 167 ct_H_breach := ⟨ke_H_breach, fun pc as h => (show BT.AllP (fun pc as => ∀ a ∈ as, chkA GX 3000 167 ct_H_breach pc a = true) ct_H_breach.cut from trivial).at h⟩
theorem ke_H_session : chkE GX 3000 169 ct_H_session = true := by decide +kernel
theorem kk_H_session : Chk GX 3000 169 ct_H_session := ⟨ke_H_session, fun pc as h => (show BT.AllP (fun pc as => ∀ a ∈ as, chkA GX 3000 169 ct_H_session pc a = true) ct_H_session.cut from trivial).at h⟩
theorem ke_Ro_turnOn : chkE GX 3000 170 ct_Ro_turnOn = true := by decide +kernel
theorem kk_Ro_turnOn : Chk GX 3000 170 ct_Ro_turnOn := ⟨ke_Ro_turnOn, fun pc as h => (show BT.AllP (fun pc as => ∀ a ∈ as, chkA GX 3000 170 ct_Ro_turnOn pc a = true) ct_Ro_turnOn.cut from trivial).at h⟩
theorem ke_H_switchOn : chkE GX 3000 171 ct_H_switchOn = true := by decide +kernel
theorem kk_H_switchOn : Chk GX 3000 171 ct_H_switchOn := ⟨ke_H_switchOn, fun pc as h => (show BT.AllP (fun pc as => ∀ a ∈ as, chkA GX 3000 171 ct_H_switchOn pc a = true) ct_H_switchOn.cut from trivial).at h⟩
theorem ke_H_switchOff : chkE GX 3000 172 ct_H_switchOff = true := by decide +kernel
theorem kk_H_switchOff : Chk GX 3000 172 ct_H_switchOff := ⟨ke_H_switchOff, fun pc as h => (show BT.AllP (fun pc as => ∀ a ∈ as, chkA GX 3000 172 ct_H_switchOff pc a = true) ct_H_switchOff.cut from trivial).at h⟩
theorem ke_Ro_groupsIn : chkE GX 3000 173 ct_Ro_groupsIn = true := by decide +kernel
theorem kk_Ro_groupsIn : Chk GX 3000 173 ct_Ro_groupsIn := ⟨ke_Ro_groupsIn, fun pc as h => (show BT.AllP (fun pc as => ∀ a ∈ as, chkA GX 3000 173 ct_Ro_groupsIn pc a = true) ct_Ro_groupsIn.cut from trivial).at h⟩
theorem ke_H_askIn : chkE GX 3000 174 ct_H_askIn = true := by decide +kernel
theorem kk_H_askIn : Chk GX 3000 174 ct_H_askIn := ⟨ke_H_askIn, fun pc as h => (show BT.AllP (fun pc as => ∀ a ∈ as, chkA GX 3000 174 ct_H_askIn pc a = true) ct_H_askIn.cut from trivial).at h⟩
theorem ke_H_work : chkE GX 3000 175 ct_H_work = true := by decide +kernel
theorem kk_H_work : Chk GX 3000 175 ct_H_work := ⟨ke_H_work, fun pc as h => (show BT.AllP (fun pc as => ∀ a ∈ as, chkA GX 3000 175 ct_H_work pc a = true) ct_H_work.cut from trivial).at h⟩
theorem ke_H_step : chkE GX 3000 177 ct_H_step = true := by decide +kernel
theorem kk_H_step : Chk GX 3000 177 ct_H_step := ⟨ke_H_step, fun pc as h => (show BT.AllP (fun pc as => ∀ a ∈ as, chkA GX 3000 177 ct_H_step pc a = true) ct_H_step.cut from trivial).at h⟩
theorem ke_H_tie : chkE GX 3000 179 ct_H_tie = true := by decide +kernel
theorem kk_H_tie : Chk GX 3000 179 ct_H_tie := ⟨ke_H_tie, fun pc as h => (show BT.AllP (fun pc as => ∀ a ∈ as, chkA GX 3000 179 ct_H_tie pc a = true) ct_H_tie.cut from trivial).at h⟩
theorem ke_Wo_prepare : chkE GX 3000 181 ct_Wo_prepare = true := by decide +kernel
theorem ka_Wo_prepare_8_0 : chkA GX 3000 181 ct_Wo_prepare 8 ca_Wo_prepare_8_0 = true := by decide +kernel
theorem ka_Wo_prepare_67_0 : chkA GX 3000 181 ct_Wo_prepare 67 ca_Wo_prepare_67_0 = true := by decide +kernel
theorem ka_Wo_prepare_105_0 : chkA GX 3000 181 ct_Wo_prepare 105 ca_Wo_prepare_105_0 = true := by decide +kernel
theorem kk_Wo_prepare : Chk GX 3000 181 ct_Wo_prepare := ⟨ke_Wo_prepare, fun pc as h => (show BT.AllP (fun pc as => ∀ a ∈ as, chkA GX 3000 181 ct_Wo_prepare pc a = true) ct_Wo_prepare.cut from ⟨⟨List.forall_mem_cons.mpr ⟨ka_Wo_prepare_8_0, fun a ha => by cases ha⟩, trivial⟩, ⟨List.forall_mem_cons.mpr ⟨ka_Wo_prepare_67_0, fun a ha => by cases ha⟩, trivial⟩, ⟨List.forall_mem_cons.mpr ⟨ka_Wo_prepare_105_0, fun a ha => by cases ha⟩, trivial⟩, trivial⟩).at h⟩
theorem ke_Wo_hasAnybodyMoreThan : chkE GX 3000 182 ct_Wo_hasAnybodyMoreThan = true := by decide +kernel
theorem ka_Wo_hasAnybodyMoreThan_2_0 : chkA GX 3000 182 ct_Wo_hasAnybodyMoreThan 2 ca_Wo_hasAnybodyMoreThan_2_0 = true := by decide +kernel
theorem ka_Wo_hasAnybodyMoreThan_13_0 : chkA GX 3000 182 ct_Wo_hasAnybodyMoreThan 13 ca_Wo_hasAnybodyMoreThan_13_0 = true := by decide +kernel
theorem kk_Wo_hasAnybodyMoreThan : Chk GX 3000 182 ct_Wo_hasAnybodyMoreThan := ⟨ke_Wo_hasAnybodyMoreThan, fun pc as h => (show BT.AllP (fun pc as => ∀ a ∈ as, chkA GX 3000 182 ct_Wo_hasAnybodyMoreThan pc a = true) ct_Wo_hasAnybodyMoreThan.cut from ⟨⟨List.forall_mem_cons.mpr ⟨ka_Wo_hasAnybodyMoreThan_2_0, fun a ha => by cases ha⟩, trivial⟩, ⟨List.forall_mem_cons.mpr ⟨ka_Wo_hasAnybodyMoreThan_13_0, fun a ha => by cases ha⟩, trivial⟩, trivial⟩).at h⟩
theorem ke_Wo_doTiesHold : chkE GX 3000 183 ct_Wo_doTiesHold = true := by decide +kernel
theorem ka_Wo_doTiesHold_5_0 : chkA GX 3000 183 ct_Wo_doTiesHold 5 ca_Wo_doTiesHold_5_0 = true := by decide +kernel
theorem kk_Wo_doTiesHold : Chk GX 3000 183 ct_Wo_doTiesHold := ⟨ke_Wo_doTiesHold, fun pc as h => (show BT.AllP (fun pc as => ∀ a ∈ as, chkA GX 3000 183 ct_Wo_doTiesHold pc a = true) ct_Wo_doTiesHold.cut from ⟨⟨List.forall_mem_cons.mpr ⟨ka_Wo_doTiesHold_5_0, fun a ha => by cases ha⟩, trivial⟩, trivial⟩).at h⟩
theorem ke_Wo_searchFrom : chkE GX 3000 184 ct_Wo_searchFrom = true := by decide +kernel
theorem ka_Wo_searchFrom_53_0 : chkA GX 3000 184 ct_Wo_searchFrom 53 ca_Wo_searchFrom_53_0 = true := by decide +kernel
theorem kk_Wo_searchFrom : Chk GX 3000 184 ct_Wo_searchFrom := ⟨ke_Wo_searchFrom, fun pc as h => (show BT.AllP (fun pc as => ∀ a ∈ as, chkA GX 3000 184 ct_Wo_searchFrom pc a = true) ct_Wo_searchFrom.cut from ⟨⟨List.forall_mem_cons.mpr ⟨ka_Wo_searchFrom_53_0, fun a ha => by cases ha⟩, trivial⟩, trivial⟩).at h⟩
theorem ke_Wo_search : chkE GX 3000 185 ct_Wo_search = true := by decide +kernel
theorem kk_Wo_search : Chk GX 3000 185 ct_Wo_search := ⟨ke_Wo_search, fun pc as h => (show BT.AllP (fun pc as => ∀ a ∈ as, chkA GX 3000 185 ct_Wo_search pc a = true) ct_Wo_search.cut from trivial).at h⟩
theorem ke_Wo_keep : chkE GX 3000 186 ct_Wo_keep = true := by decide +kernel
theorem ka_Wo_keep_2_0 : chkA GX 3000 186 ct_Wo_keep 2 ca_Wo_keep_2_0 = true := by decide +kernel
theorem kk_Wo_keep : Chk GX 3000 186 ct_Wo_keep := ⟨ke_Wo_keep, fun pc as h => (show BT.AllP (fun pc as => ∀ a ∈ as, chkA GX 3000 186 ct_Wo_keep pc a = true) ct_Wo_keep.cut from ⟨⟨List.forall_mem_cons.mpr ⟨ka_Wo_keep_2_0, fun a ha => by cases ha⟩, trivial⟩, trivial⟩).at h⟩
theorem ke_H_fill : chkE GX 3000 187 ct_H_fill = true := by decide +kernel
theorem kk_H_fill : Chk GX 3000 187 ct_H_fill := ⟨ke_H_fill, fun pc as h => (show BT.AllP (fun pc as => ∀ a ∈ as, chkA GX 3000 187 ct_H_fill pc a = true) ct_H_fill.cut from trivial).at h⟩
theorem ke_H_filled : chkE GX 3000 188 ct_H_filled = true := by decide +kernel
theorem kk_H_filled : Chk GX 3000 188 ct_H_filled := ⟨ke_H_filled, fun pc as h => (show BT.AllP (fun pc as => ∀ a ∈ as, chkA GX 3000 188 ct_H_filled pc a = true) ct_H_filled.cut from trivial).at h⟩
theorem ke_Wo_searchWith : chkE GX 3000 189 ct_Wo_searchWith = true := by decide +kernel
theorem kk_Wo_searchWith : Chk GX 3000 189 ct_Wo_searchWith := ⟨ke_Wo_searchWith, fun pc as h => (show BT.AllP (fun pc as => ∀ a ∈ as, chkA GX 3000 189 ct_Wo_searchWith pc a = true) ct_Wo_searchWith.cut from trivial).at h⟩
theorem ke_H_next : chkE GX 3000 190 ct_H_next = true := by decide +kernel
theorem kk_H_next : Chk GX 3000 190 ct_H_next := ⟨ke_H_next, fun pc as h => (show BT.AllP (fun pc as => ∀ a ∈ as, chkA GX 3000 190 ct_H_next pc a = true) ct_H_next.cut from trivial).at h⟩
theorem ke_H_perform : chkE GX 3000 191 ct_H_perform = true := by decide +kernel
theorem kk_H_perform : Chk GX 3000 191 ct_H_perform := ⟨ke_H_perform, fun pc as h => (show BT.AllP (fun pc as => ∀ a ∈ as, chkA GX 3000 191 ct_H_perform pc a = true) ct_H_perform.cut from trivial).at h⟩
theorem ke_Wo_hasDone : chkE GX 3000 192 ct_Wo_hasDone = true := by decide +kernel
theorem ka_Wo_hasDone_2_0 : chkA GX 3000 192 ct_Wo_hasDone 2 ca_Wo_hasDone_2_0 = true := by decide +kernel
theorem kk_Wo_hasDone : Chk GX 3000 192 ct_Wo_hasDone := ⟨ke_Wo_hasDone, fun pc as h => (show BT.AllP (fun pc as => ∀ a ∈ as, chkA GX 3000 192 ct_Wo_hasDone pc a = true) ct_Wo_hasDone.cut from ⟨⟨List.forall_mem_cons.mpr ⟨ka_Wo_hasDone_2_0, fun a ha => by cases ha⟩, trivial⟩, trivial⟩).at h⟩
theorem ke_H_needed : chkE GX 3000 193 ct_H_needed = true := by decide +kernel
theorem kk_H_needed : Chk GX 3000 193 ct_H_needed := ⟨ke_H_needed, fun pc as h => (show BT.AllP (fun pc as => ∀ a ∈ as, chkA GX 3000 193 ct_H_needed pc a = true) ct_H_needed.cut from trivial).at h⟩
theorem ke_H_tries : chkE GX 3000 194 ct_H_tries = true := by decide +kernel
theorem kk_H_tries : Chk GX 3000 194 ct_H_tries := ⟨ke_H_tries, fun pc as h => (show BT.AllP (fun pc as => ∀ a ∈ as, chkA GX 3000 194 ct_H_tries pc a = true) ct_H_tries.cut from trivial).at h⟩
theorem ke_Le_lendGiving : chkE GX 3000 195 ct_Le_lendGiving = true := by decide +kernel
theorem ka_Le_lendGiving_3_0 : chkA GX 3000 195 ct_Le_lendGiving 3 ca_Le_lendGiving_3_0 = true := by decide +kernel
theorem kk_Le_lendGiving : Chk GX 3000 195 ct_Le_lendGiving := ⟨ke_Le_lendGiving, fun pc as h => (show BT.AllP (fun pc as => ∀ a ∈ as, chkA GX 3000 195 ct_Le_lendGiving pc a = true) ct_Le_lendGiving.cut from ⟨⟨List.forall_mem_cons.mpr ⟨ka_Le_lendGiving_3_0, fun a ha => by cases ha⟩, trivial⟩, trivial⟩).at h⟩
theorem ke_Le_hasRight : chkE GX 3000 196 ct_Le_hasRight = true := by decide +kernel
theorem kk_Le_hasRight : Chk GX 3000 196 ct_Le_hasRight := ⟨ke_Le_hasRight, fun pc as h => (show BT.AllP (fun pc as => ∀ a ∈ as, chkA GX 3000 196 ct_Le_hasRight pc a = true) ct_Le_hasRight.cut from trivial).at h⟩
theorem ke_Le_weighAll : chkE GX 3000 197 ct_Le_weighAll = true := by decide +kernel
theorem ka_Le_weighAll_2_0 : chkA GX 3000 197 ct_Le_weighAll 2 ca_Le_weighAll_2_0 = true := by decide +kernel
theorem ka_Le_weighAll_26_0 : chkA GX 3000 197 ct_Le_weighAll 26 ca_Le_weighAll_26_0 = true := by decide +kernel
theorem ka_Le_weighAll_32_0 : chkA GX 3000 197 ct_Le_weighAll 32 ca_Le_weighAll_32_0 = true := by decide +kernel
theorem kk_Le_weighAll : Chk GX 3000 197 ct_Le_weighAll := ⟨ke_Le_weighAll, fun pc as h => (show BT.AllP (fun pc as => ∀ a ∈ as, chkA GX 3000 197 ct_Le_weighAll pc a = true) ct_Le_weighAll.cut from ⟨⟨List.forall_mem_cons.mpr ⟨ka_Le_weighAll_2_0, fun a ha => by cases ha⟩, trivial⟩, ⟨List.forall_mem_cons.mpr ⟨ka_Le_weighAll_26_0, fun a ha => by cases ha⟩, trivial⟩, ⟨List.forall_mem_cons.mpr ⟨ka_Le_weighAll_32_0, fun a ha => by cases ha⟩, trivial⟩, trivial⟩).at h⟩
theorem ke_H_lend : chkE GX 3000 199 ct_H_lend = true := by decide +kernel
theorem kk_H_lend : Chk GX 3000 199 ct_H_lend := ⟨ke_H_lend, fun pc as h => (show BT.AllP (fun pc as => ∀ a ∈ as, chkA GX 3000 199 ct_H_lend pc a = true) ct_H_lend.cut from trivial).at h⟩
theorem ke_H_endLend : chkE GX 3000 200 ct_H_endLend = true := by decide +kernel
theorem kk_H_endLend : Chk GX 3000 200 ct_H_endLend := ⟨ke_H_endLend, fun pc as h => (show BT.AllP (fun pc as => ∀ a ∈ as, chkA GX 3000 200 ct_H_endLend pc a = true) ct_H_endLend.cut from trivial).at h⟩
theorem ke_Le_keepChain : chkE GX 3000 201 ct_Le_keepChain = true := by decide +kernel
