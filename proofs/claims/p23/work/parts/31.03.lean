theorem ke_H_ask : chkE GX 3000 144 ct_H_ask = true := by decide +kernel
theorem kk_H_ask : Chk GX 3000 144 ct_H_ask := ⟨ke_H_ask, fun pc as h => (show BT.AllP (fun pc as => ∀ a ∈ as, chkA GX 3000 144 ct_H_ask pc a = true) ct_H_ask.cut from trivial).at h⟩
theorem ke_H_asked : chkE GX 3000 145 ct_H_asked = true := by decide +kernel
theorem kk_H_asked : Chk GX 3000 145 ct_H_asked := ⟨ke_H_asked, fun pc as h => (show BT.AllP (fun pc as => ∀ a ∈ as, chkA GX 3000 145 ct_H_asked pc a = true) ct_H_asked.cut from trivial).at h⟩
theorem ke_H_made : chkE GX 3000 146 ct_H_made = true := by decide +kernel
theorem kk_H_made : Chk GX 3000 146 ct_H_made := ⟨ke_H_made, fun pc as h => (show BT.AllP (fun pc as => ∀ a ∈ as, chkA GX 3000 146 ct_H_made pc a = true) ct_H_made.cut from trivial).at h⟩
theorem ke_Ju_thingAllowed : chkE GX 3000 147 ct_Ju_thingAllowed = true := by decide +kernel
theorem ka_Ju_thingAllowed_6_0 : chkA GX 3000 147 ct_Ju_thingAllowed 6 ca_Ju_thingAllowed_6_0 = true := by decide +kernel
theorem kk_Ju_thingAllowed : Chk GX 3000 147 ct_Ju_thingAllowed := ⟨ke_Ju_thingAllowed, fun pc as h => (show BT.AllP (fun pc as => ∀ a ∈ as, chkA GX 3000 147 ct_Ju_thingAllowed pc a = true) ct_Ju_thingAllowed.cut from ⟨⟨List.forall_mem_cons.mpr ⟨ka_Ju_thingAllowed_6_0, fun a ha => by cases ha⟩, trivial⟩, trivial⟩).at h⟩
theorem ke_H_may : chkE GX 3000 148 ct_H_may = true := by decide +kernel
theorem kk_H_may : Chk GX 3000 148 ct_H_may := ⟨ke_H_may, fun pc as h => (show BT.AllP (fun pc as => ∀ a ∈ as, chkA GX 3000 148 ct_H_may pc a = true) ct_H_may.cut from trivial).at h⟩
theorem ke_Ju_personAllowed : chkE GX 3000 149 ct_Ju_personAllowed = true := by decide +kernel
theorem ka_Ju_personAllowed_7_0 : chkA GX 3000 149 ct_Ju_personAllowed 7 ca_Ju_personAllowed_7_0 = true := by decide +kernel
theorem kk_Ju_personAllowed : Chk GX 3000 149 ct_Ju_personAllowed := ⟨ke_Ju_personAllowed, fun pc as h => (show BT.AllP (fun pc as => ∀ a ∈ as, chkA GX 3000 149 ct_Ju_personAllowed pc a = true) ct_Ju_personAllowed.cut from ⟨⟨List.forall_mem_cons.mpr ⟨ka_Ju_personAllowed_7_0, fun a ha => by cases ha⟩, trivial⟩, trivial⟩).at h⟩
theorem ke_H_who : chkE GX 3000 150 ct_H_who = true := by decide +kernel
theorem kk_H_who : Chk GX 3000 150 ct_H_who := ⟨ke_H_who, fun pc as h => (show BT.AllP (fun pc as => ∀ a ∈ as, chkA GX 3000 150 ct_H_who pc a = true) ct_H_who.cut from trivial).at h⟩
theorem ke_Ju_differences : chkE GX 3000 152 ct_Ju_differences = true := by decide +kernel
theorem ka_Ju_differences_65_0 : chkA GX 3000 152 ct_Ju_differences 65 ca_Ju_differences_65_0 = true := by decide +kernel
theorem ka_Ju_differences_103_0 : chkA GX 3000 152 ct_Ju_differences 103 ca_Ju_differences_103_0 = true := by decide +kernel
theorem ka_Ju_differences_113_0 : chkA GX 3000 152 ct_Ju_differences 113 ca_Ju_differences_113_0 = true := by decide +kernel
theorem kk_Ju_differences : Chk GX 3000 152 ct_Ju_differences := ⟨ke_Ju_differences, fun pc as h => (show BT.AllP (fun pc as => ∀ a ∈ as, chkA GX 3000 152 ct_Ju_differences pc a = true) ct_Ju_differences.cut from ⟨⟨List.forall_mem_cons.mpr ⟨ka_Ju_differences_65_0, fun a ha => by cases ha⟩, trivial⟩, ⟨List.forall_mem_cons.mpr ⟨ka_Ju_differences_103_0, fun a ha => by cases ha⟩, trivial⟩, ⟨List.forall_mem_cons.mpr ⟨ka_Ju_differences_113_0, fun a ha => by cases ha⟩, trivial⟩, trivial⟩).at h⟩
theorem ke_H_compare : chkE GX 3000 153 ct_H_compare = true := by decide +kernel
theorem kk_H_compare : Chk GX 3000 153 ct_H_compare := ⟨ke_H_compare, fun pc as h => (show BT.AllP (fun pc as => ∀ a ∈ as, chkA GX 3000 153 ct_H_compare pc a = true) ct_H_compare.cut from trivial).at h⟩
theorem ke_H_compared : chkE GX 3000 154 ct_H_compared = true := by decide +kernel
theorem kk_H_compared : Chk GX 3000 154 ct_H_compared := ⟨ke_H_compared, fun pc as h => (show BT.AllP (fun pc as => ∀ a ∈ as, chkA GX 3000 154 ct_H_compared pc a = true) ct_H_compared.cut from trivial).at h⟩
theorem ke_Ju_decidedBy : chkE GX 3000 155 ct_Ju_decidedBy = true := by decide +kernel
theorem ka_Ju_decidedBy_15_0 : chkA GX 3000 155 ct_Ju_decidedBy 15 ca_Ju_decidedBy_15_0 = true := by decide +kernel
theorem ka_Ju_decidedBy_53_0 : chkA GX 3000 155 ct_Ju_decidedBy 53 ca_Ju_decidedBy_53_0 = true := by decide +kernel
theorem ka_Ju_decidedBy_63_0 : chkA GX 3000 155 ct_Ju_decidedBy 63 ca_Ju_decidedBy_63_0 = true := by decide +kernel
theorem kk_Ju_decidedBy : Chk GX 3000 155 ct_Ju_decidedBy := ⟨ke_Ju_decidedBy, fun pc as h => (show BT.AllP (fun pc as => ∀ a ∈ as, chkA GX 3000 155 ct_Ju_decidedBy pc a = true) ct_Ju_decidedBy.cut from ⟨⟨List.forall_mem_cons.mpr ⟨ka_Ju_decidedBy_15_0, fun a ha => by cases ha⟩, trivial⟩, ⟨List.forall_mem_cons.mpr ⟨ka_Ju_decidedBy_53_0, fun a ha => by cases ha⟩, trivial⟩, ⟨List.forall_mem_cons.mpr ⟨ka_Ju_decidedBy_63_0, fun a ha => by cases ha⟩, trivial⟩, trivial⟩).at h⟩
theorem ke_H_decides : chkE GX 3000 156 ct_H_decides = true := by decide +kernel
theorem kk_H_decides : Chk GX 3000 156 ct_H_decides := ⟨ke_H_decides, fun pc as h => (show BT.AllP (fun pc as => ∀ a ∈ as, chkA GX 3000 156 ct_H_decides pc a = true) ct_H_decides.cut from trivial).at h⟩
theorem ke_H_law : chkE GX 3000 158 ct_H_law = true := by decide +kernel
theorem kk_H_law : Chk GX 3000 158 ct_H_law := ⟨ke_H_law, fun pc as h => (show BT.AllP (fun pc as => ∀ a ∈ as, chkA GX 3000 158 ct_H_law pc a = true) ct_H_law.cut from trivial).at h⟩
theorem ke_Ro_refusingGiver : chkE GX 3000 159 ct_Ro_refusingGiver = true := by decide +kernel
theorem ka_Ro_refusingGiver_19_0 : chkA GX 3000 159 ct_Ro_refusingGiver 19 ca_Ro_refusingGiver_19_0 = true := by decide +kernel
theorem kk_Ro_refusingGiver : Chk GX 3000 159 ct_Ro_refusingGiver := ⟨ke_Ro_refusingGiver, fun pc as h => (show BT.AllP (fun pc as => ∀ a ∈ as, chkA GX 3000 159 ct_Ro_refusingGiver pc a = true) ct_Ro_refusingGiver.cut from ⟨⟨List.forall_mem_cons.mpr ⟨ka_Ro_refusingGiver_19_0, fun a ha => by cases ha⟩, trivial⟩, trivial⟩).at h⟩
theorem ke_Ro_isBothOn : chkE GX 3000 160 ct_Ro_isBothOn = true := by decide +kernel
theorem ka_Ro_isBothOn_2_0 : chkA GX 3000 160 ct_Ro_isBothOn 2 ca_Ro_isBothOn_2_0 = true := by decide +kernel
theorem kk_Ro_isBothOn : Chk GX 3000 160 ct_Ro_isBothOn := ⟨ke_Ro_isBothOn, fun pc as h => (show BT.AllP (fun pc as => ∀ a ∈ as, chkA GX 3000 160 ct_Ro_isBothOn pc a = true) ct_Ro_isBothOn.cut from ⟨⟨List.forall_mem_cons.mpr ⟨ka_Ro_isBothOn_2_0, fun a ha => by cases ha⟩, trivial⟩, trivial⟩).at h⟩
theorem ke_Ro_doesLawHold : chkE GX 3000 161 ct_Ro_doesLawHold = true := by decide +kernel
theorem ka_Ro_doesLawHold_42_0 : chkA GX 3000 161 ct_Ro_doesLawHold 42 ca_Ro_doesLawHold_42_0 = true := by decide +kernel
theorem kk_Ro_doesLawHold : Chk GX 3000 161 ct_Ro_doesLawHold := ⟨ke_Ro_doesLawHold, fun pc as h => (show BT.AllP (fun pc as => ∀ a ∈ as, chkA GX 3000 161 ct_Ro_doesLawHold pc a = true) ct_Ro_doesLawHold.cut from ⟨⟨List.forall_mem_cons.mpr ⟨ka_Ro_doesLawHold_42_0, fun a ha => by cases ha⟩, trivial⟩, trivial⟩).at h⟩
theorem ke_Ro_firstNotHolding : chkE GX 3000 162 ct_Ro_firstNotHolding = true := by decide +kernel
theorem ka_Ro_firstNotHolding_3_0 : chkA GX 3000 162 ct_Ro_firstNotHolding 3 ca_Ro_firstNotHolding_3_0 = true := by decide +kernel
theorem ka_Ro_firstNotHolding_42_0 : chkA GX 3000 162 ct_Ro_firstNotHolding 42 ca_Ro_firstNotHolding_42_0 = true := by decide +kernel
theorem kk_Ro_firstNotHolding : Chk GX 3000 162 ct_Ro_firstNotHolding := ⟨ke_Ro_firstNotHolding, fun pc as h => (show BT.AllP (fun pc as => ∀ a ∈ as, chkA GX 3000 162 ct_Ro_firstNotHolding pc a = true) ct_Ro_firstNotHolding.cut from ⟨⟨List.forall_mem_cons.mpr ⟨ka_Ro_firstNotHolding_3_0, fun a ha => by cases ha⟩, trivial⟩, ⟨List.forall_mem_cons.mpr ⟨ka_Ro_firstNotHolding_42_0, fun a ha => by cases ha⟩, trivial⟩, trivial⟩).at h⟩
theorem ke_Ro_giveRow : chkE GX 3000 163 ct_Ro_giveRow = true := by decide +kernel
theorem kk_Ro_giveRow : Chk GX 3000 163 ct_Ro_giveRow := ⟨ke_Ro_giveRow, fun pc as h => (show BT.AllP (fun pc as => ∀ a ∈ as, chkA GX 3000 163 ct_Ro_giveRow pc a = true) ct_Ro_giveRow.cut from trivial).at h⟩
theorem ke_H_give : chkE GX 3000 164 ct_H_give = true := by decide +kernel
theorem kk_H_give : Chk GX 3000 164 ct_H_give := ⟨ke_H_give, fun pc as h => (show BT.AllP (fun pc as => ∀ a ∈ as, chkA GX 3000 164 ct_H_give pc a = true) ct_H_give.cut from trivial).at h⟩
theorem ke_Wh_endRows : chkE GX 3000 165 ct_Wh_endRows = true := by decide +kernel
theorem ka_Wh_endRows_6_0 : chkA GX 3000 165 ct_Wh_endRows 6 ca_Wh_endRows_6_0 = true := by decide +kernel
theorem kk_Wh_endRows : Chk GX 3000 165 ct_Wh_endRows := ⟨ke_Wh_endRows, fun pc as h => (show BT.AllP (fun pc as => ∀ a ∈ as, chkA GX 3000 165 ct_Wh_endRows pc a = true) ct_Wh_endRows.cut from ⟨⟨List.forall_mem_cons.mpr ⟨ka_Wh_endRows_6_0, fun a ha => by cases ha⟩, trivial⟩, trivial⟩).at h⟩
theorem ke_H_take : chkE GX 3000 166 ct_H_take = true := by decide +kernel
theorem kk_H_take : Chk GX 3000 166 ct_H_take := ⟨ke_H_take, fun pc as h => (show BT.AllP (fun pc as => ∀ a ∈ as, chkA GX 3000 166 ct_H_take pc a = true) ct_H_take.cut from trivial).at h⟩
theorem ke_H_broken : chkE GX 3000 167 ct_H_broken = true := by decide +kernel
theorem kk_H_broken : Chk GX 3000 167 ct_H_broken := ⟨ke_H_broken, fun pc as h => (show BT.AllP (fun pc as => ∀ a ∈ as, chkA GX 3000 167 ct_H_broken pc a = true) ct_H_broken.cut from trivial).at h⟩
theorem ke_H_breach : chkE GX 3000 168 ct_H_breach = true := by decide +kernel
theorem kk_H_breach : Chk GX 3000 168 ct_H_breach := ⟨ke_H_breach, fun pc as h => (show BT.AllP (fun pc as => ∀ a ∈ as, chkA GX 3000 168 ct_H_breach pc a = true) ct_H_breach.cut from trivial).at h⟩
theorem ke_H_session : chkE GX 3000 170 ct_H_session = true := by decide +kernel
theorem kk_H_session : Chk GX 3000 170 ct_H_session := ⟨ke_H_session, fun pc as h => (show BT.AllP (fun pc as => ∀ a ∈ as, chkA GX 3000 170 ct_H_session pc a = true) ct_H_session.cut from trivial).at h⟩
theorem ke_Ro_turnOn : chkE GX 3000 171 ct_Ro_turnOn = true := by decide +kernel
theorem kk_Ro_turnOn : Chk GX 3000 171 ct_Ro_turnOn := ⟨ke_Ro_turnOn, fun pc as h => (show BT.AllP (fun pc as => ∀ a ∈ as, chkA GX 3000 171 ct_Ro_turnOn pc a = true) ct_Ro_turnOn.cut from trivial).at h⟩
theorem ke_H_switchOn : chkE GX 3000 172 ct_H_switchOn = true := by decide +kernel
theorem kk_H_switchOn : Chk GX 3000 172 ct_H_switchOn := ⟨ke_H_switchOn, fun pc as h => (show BT.AllP (fun pc as => ∀ a ∈ as, chkA GX 3000 172 ct_H_switchOn pc a = true) ct_H_switchOn.cut from trivial).at h⟩
theorem ke_H_switchOff : chkE GX 3000 173 ct_H_switchOff = true := by decide +kernel
theorem kk_H_switchOff : Chk GX 3000 173 ct_H_switchOff := ⟨ke_H_switchOff, fun pc as h => (show BT.AllP (fun pc as => ∀ a ∈ as, chkA GX 3000 173 ct_H_switchOff pc a = true) ct_H_switchOff.cut from trivial).at h⟩
theorem ke_Ro_groupsIn : chkE GX 3000 174 ct_Ro_groupsIn = true := by decide +kernel
theorem kk_Ro_groupsIn : Chk GX 3000 174 ct_Ro_groupsIn := ⟨ke_Ro_groupsIn, fun pc as h => (show BT.AllP (fun pc as => ∀ a ∈ as, chkA GX 3000 174 ct_Ro_groupsIn pc a = true) ct_Ro_groupsIn.cut from trivial).at h⟩
theorem ke_H_askIn : chkE GX 3000 175 ct_H_askIn = true := by decide +kernel
theorem kk_H_askIn : Chk GX 3000 175 ct_H_askIn := ⟨ke_H_askIn, fun pc as h => (show BT.AllP (fun pc as => ∀ a ∈ as, chkA GX 3000 175 ct_H_askIn pc a = true) ct_H_askIn.cut from trivial).at h⟩
theorem ke_H_work : chkE GX 3000 176 ct_H_work = true := by decide +kernel
theorem kk_H_work : Chk GX 3000 176 ct_H_work := ⟨ke_H_work, fun pc as h => (show BT.AllP (fun pc as => ∀ a ∈ as, chkA GX 3000 176 ct_H_work pc a = true) ct_H_work.cut from trivial).at h⟩
theorem ke_H_step : chkE GX 3000 178 ct_H_step = true := by decide +kernel
theorem kk_H_step : Chk GX 3000 178 ct_H_step := ⟨ke_H_step, fun pc as h => (show BT.AllP (fun pc as => ∀ a ∈ as, chkA GX 3000 178 ct_H_step pc a = true) ct_H_step.cut from trivial).at h⟩
theorem ke_H_tie : chkE GX 3000 180 ct_H_tie = true := by decide +kernel
theorem kk_H_tie : Chk GX 3000 180 ct_H_tie := ⟨ke_H_tie, fun pc as h => (show BT.AllP (fun pc as => ∀ a ∈ as, chkA GX 3000 180 ct_H_tie pc a = true) ct_H_tie.cut from trivial).at h⟩
theorem ke_Wo_prepare : chkE GX 3000 182 ct_Wo_prepare = true := by decide +kernel
theorem ka_Wo_prepare_8_0 : chkA GX 3000 182 ct_Wo_prepare 8 ca_Wo_prepare_8_0 = true := by decide +kernel
theorem ka_Wo_prepare_67_0 : chkA GX 3000 182 ct_Wo_prepare 67 ca_Wo_prepare_67_0 = true := by decide +kernel
theorem ka_Wo_prepare_105_0 : chkA GX 3000 182 ct_Wo_prepare 105 ca_Wo_prepare_105_0 = true := by decide +kernel
theorem kk_Wo_prepare : Chk GX 3000 182 ct_Wo_prepare := ⟨ke_Wo_prepare, fun pc as h => (show BT.AllP (fun pc as => ∀ a ∈ as, chkA GX 3000 182 ct_Wo_prepare pc a = true) ct_Wo_prepare.cut from ⟨⟨List.forall_mem_cons.mpr ⟨ka_Wo_prepare_8_0, fun a ha => by cases ha⟩, trivial⟩, ⟨List.forall_mem_cons.mpr ⟨ka_Wo_prepare_67_0, fun a ha => by cases ha⟩, trivial⟩, ⟨List.forall_mem_cons.mpr ⟨ka_Wo_prepare_105_0, fun a ha => by cases ha⟩, trivial⟩, trivial⟩).at h⟩
theorem ke_Wo_hasAnybodyMoreThan : chkE GX 3000 183 ct_Wo_hasAnybodyMoreThan = true := by decide +kernel
theorem ka_Wo_hasAnybodyMoreThan_2_0 : chkA GX 3000 183 ct_Wo_hasAnybodyMoreThan 2 ca_Wo_hasAnybodyMoreThan_2_0 = true := by decide +kernel
theorem ka_Wo_hasAnybodyMoreThan_13_0 : chkA GX 3000 183 ct_Wo_hasAnybodyMoreThan 13 ca_Wo_hasAnybodyMoreThan_13_0 = true := by decide +kernel
theorem kk_Wo_hasAnybodyMoreThan : Chk GX 3000 183 ct_Wo_hasAnybodyMoreThan := ⟨ke_Wo_hasAnybodyMoreThan, fun pc as h => (show BT.AllP (fun pc as => ∀ a ∈ as, chkA GX 3000 183 ct_Wo_hasAnybodyMoreThan pc a = true) ct_Wo_hasAnybodyMoreThan.cut from ⟨⟨List.forall_mem_cons.mpr ⟨ka_Wo_hasAnybodyMoreThan_2_0, fun a ha => by cases ha⟩, trivial⟩, ⟨List.forall_mem_cons.mpr ⟨ka_Wo_hasAnybodyMoreThan_13_0, fun a ha => by cases ha⟩, trivial⟩, trivial⟩).at h⟩
theorem ke_Wo_doTiesHold : chkE GX 3000 184 ct_Wo_doTiesHold = true := by decide +kernel
theorem ka_Wo_doTiesHold_5_0 : chkA GX 3000 184 ct_Wo_doTiesHold 5 ca_Wo_doTiesHold_5_0 = true := by decide +kernel
theorem kk_Wo_doTiesHold : Chk GX 3000 184 ct_Wo_doTiesHold := ⟨ke_Wo_doTiesHold, fun pc as h => (show BT.AllP (fun pc as => ∀ a ∈ as, chkA GX 3000 184 ct_Wo_doTiesHold pc a = true) ct_Wo_doTiesHold.cut from ⟨⟨List.forall_mem_cons.mpr ⟨ka_Wo_doTiesHold_5_0, fun a ha => by cases ha⟩, trivial⟩, trivial⟩).at h⟩
theorem ke_Wo_searchFrom : chkE GX 3000 185 ct_Wo_searchFrom = true := by decide +kernel
theorem ka_Wo_searchFrom_53_0 : chkA GX 3000 185 ct_Wo_searchFrom 53 ca_Wo_searchFrom_53_0 = true := by decide +kernel
theorem kk_Wo_searchFrom : Chk GX 3000 185 ct_Wo_searchFrom := ⟨ke_Wo_searchFrom, fun pc as h => (show BT.AllP (fun pc as => ∀ a ∈ as, chkA GX 3000 185 ct_Wo_searchFrom pc a = true) ct_Wo_searchFrom.cut from ⟨⟨List.forall_mem_cons.mpr ⟨ka_Wo_searchFrom_53_0, fun a ha => by cases ha⟩, trivial⟩, trivial⟩).at h⟩
theorem ke_Wo_search : chkE GX 3000 186 ct_Wo_search = true := by decide +kernel
theorem kk_Wo_search : Chk GX 3000 186 ct_Wo_search := ⟨ke_Wo_search, fun pc as h => (show BT.AllP (fun pc as => ∀ a ∈ as, chkA GX 3000 186 ct_Wo_search pc a = true) ct_Wo_search.cut from trivial).at h⟩
theorem ke_Wo_keep : chkE GX 3000 187 ct_Wo_keep = true := by decide +kernel
theorem ka_Wo_keep_2_0 : chkA GX 3000 187 ct_Wo_keep 2 ca_Wo_keep_2_0 = true := by decide +kernel
theorem kk_Wo_keep : Chk GX 3000 187 ct_Wo_keep := ⟨ke_Wo_keep, fun pc as h => (show BT.AllP (fun pc as => ∀ a ∈ as, chkA GX 3000 187 ct_Wo_keep pc a = true) ct_Wo_keep.cut from ⟨⟨List.forall_mem_cons.mpr ⟨ka_Wo_keep_2_0, fun a ha => by cases ha⟩, trivial⟩, trivial⟩).at h⟩
theorem ke_H_fill : chkE GX 3000 188 ct_H_fill = true := by decide +kernel
theorem kk_H_fill : Chk GX 3000 188 ct_H_fill := ⟨ke_H_fill, fun pc as h => (show BT.AllP (fun pc as => ∀ a ∈ as, chkA GX 3000 188 ct_H_fill pc a = true) ct_H_fill.cut from trivial).at h⟩
theorem ke_H_filled : chkE GX 3000 189 ct_H_filled = true := by decide +kernel
theorem kk_H_filled : Chk GX 3000 189 ct_H_filled := ⟨ke_H_filled, fun pc as h => (show BT.AllP (fun pc as => ∀ a ∈ as, chkA GX 3000 189 ct_H_filled pc a = true) ct_H_filled.cut from trivial).at h⟩
theorem ke_Wo_searchWith : chkE GX 3000 190 ct_Wo_searchWith = true := by decide +kernel
theorem kk_Wo_searchWith : Chk GX 3000 190 ct_Wo_searchWith := ⟨ke_Wo_searchWith, fun pc as h => (show BT.AllP (fun pc as => ∀ a ∈ as, chkA GX 3000 190 ct_Wo_searchWith pc a = true) ct_Wo_searchWith.cut from trivial).at h⟩
theorem ke_H_next : chkE GX 3000 191 ct_H_next = true := by decide +kernel
theorem kk_H_next : Chk GX 3000 191 ct_H_next := ⟨ke_H_next, fun pc as h => (show BT.AllP (fun pc as => ∀ a ∈ as, chkA GX 3000 191 ct_H_next pc a = true) ct_H_next.cut from trivial).at h⟩
theorem ke_H_perform : chkE GX 3000 192 ct_H_perform = true := by decide +kernel
theorem kk_H_perform : Chk GX 3000 192 ct_H_perform := ⟨ke_H_perform, fun pc as h => (show BT.AllP (fun pc as => ∀ a ∈ as, chkA GX 3000 192 ct_H_perform pc a = true) ct_H_perform.cut from trivial).at h⟩
theorem ke_Wo_hasDone : chkE GX 3000 193 ct_Wo_hasDone = true := by decide +kernel
theorem ka_Wo_hasDone_2_0 : chkA GX 3000 193 ct_Wo_hasDone 2 ca_Wo_hasDone_2_0 = true := by decide +kernel
theorem kk_Wo_hasDone : Chk GX 3000 193 ct_Wo_hasDone := ⟨ke_Wo_hasDone, fun pc as h => (show BT.AllP (fun pc as => ∀ a ∈ as, chkA GX 3000 193 ct_Wo_hasDone pc a = true) ct_Wo_hasDone.cut from ⟨⟨List.forall_mem_cons.mpr ⟨ka_Wo_hasDone_2_0, fun a ha => by cases ha⟩, trivial⟩, trivial⟩).at h⟩
theorem ke_H_needed : chkE GX 3000 194 ct_H_needed = true := by decide +kernel
theorem kk_H_needed : Chk GX 3000 194 ct_H_needed := ⟨ke_H_needed, fun pc as h => (show BT.AllP (fun pc as => ∀ a ∈ as, chkA GX 3000 194 ct_H_needed pc a = true) ct_H_needed.cut from trivial).at h⟩
theorem ke_H_tries : chkE GX 3000 195 ct_H_tries = true := by decide +kernel
theorem kk_H_tries : Chk GX 3000 195 ct_H_tries := ⟨ke_H_tries, fun pc as h => (show BT.AllP (fun pc as => ∀ a ∈ as, chkA GX 3000 195 ct_H_tries pc a = true) ct_H_tries.cut from trivial).at h⟩
theorem ke_Le_lendGiving : chkE GX 3000 196 ct_Le_lendGiving = true := by decide +kernel
theorem ka_Le_lendGiving_3_0 : chkA GX 3000 196 ct_Le_lendGiving 3 ca_Le_lendGiving_3_0 = true := by decide +kernel
theorem kk_Le_lendGiving : Chk GX 3000 196 ct_Le_lendGiving := ⟨ke_Le_lendGiving, fun pc as h => (show BT.AllP (fun pc as => ∀ a ∈ as, chkA GX 3000 196 ct_Le_lendGiving pc a = true) ct_Le_lendGiving.cut from ⟨⟨List.forall_mem_cons.mpr ⟨ka_Le_lendGiving_3_0, fun a ha => by cases ha⟩, trivial⟩, trivial⟩).at h⟩
theorem ke_Le_hasRight : chkE GX 3000 197 ct_Le_hasRight = true := by decide +kernel
theorem kk_Le_hasRight : Chk GX 3000 197 ct_Le_hasRight := ⟨ke_Le_hasRight, fun pc as h => (show BT.AllP (fun pc as => ∀ a ∈ as, chkA GX 3000 197 ct_Le_hasRight pc a = true) ct_Le_hasRight.cut from trivial).at h⟩
theorem ke_Le_weighAll : chkE GX 3000 198 ct_Le_weighAll = true := by decide +kernel
theorem ka_Le_weighAll_2_0 : chkA GX 3000 198 ct_Le_weighAll 2 ca_Le_weighAll_2_0 = true := by decide +kernel
theorem ka_Le_weighAll_26_0 : chkA GX 3000 198 ct_Le_weighAll 26 ca_Le_weighAll_26_0 = true := by decide +kernel
theorem ka_Le_weighAll_32_0 : chkA GX 3000 198 ct_Le_weighAll 32 ca_Le_weighAll_32_0 = true := by decide +kernel
theorem kk_Le_weighAll : Chk GX 3000 198 ct_Le_weighAll := ⟨ke_Le_weighAll, fun pc as h => (show BT.AllP (fun pc as => ∀ a ∈ as, chkA GX 3000 198 ct_Le_weighAll pc a = true) ct_Le_weighAll.cut from ⟨⟨List.forall_mem_cons.mpr ⟨ka_Le_weighAll_2_0, fun a ha => by cases ha⟩, trivial⟩, ⟨List.forall_mem_cons.mpr ⟨ka_Le_weighAll_26_0, fun a ha => by cases ha⟩, trivial⟩, ⟨List.forall_mem_cons.mpr ⟨ka_Le_weighAll_32_0, fun a ha => by cases ha⟩, trivial⟩, trivial⟩).at h⟩
theorem ke_H_lend : chkE GX 3000 200 ct_H_lend = true := by decide +kernel
theorem kk_H_lend : Chk GX 3000 200 ct_H_lend := ⟨ke_H_lend, fun pc as h => (show BT.AllP (fun pc as => ∀ a ∈ as, chkA GX 3000 200 ct_H_lend pc a = true) ct_H_lend.cut from trivial).at h⟩
theorem ke_H_endLend : chkE GX 3000 201 ct_H_endLend = true := by decide +kernel
theorem kk_H_endLend : Chk GX 3000 201 ct_H_endLend := ⟨ke_H_endLend, fun pc as h => (show BT.AllP (fun pc as => ∀ a ∈ as, chkA GX 3000 201 ct_H_endLend pc a = true) ct_H_endLend.cut from trivial).at h⟩
theorem ke_Le_keepChain : chkE GX 3000 202 ct_Le_keepChain = true := by decide +kernel
theorem ka_Le_keepChain_33_0 : chkA GX 3000 202 ct_Le_keepChain 33 ca_Le_keepChain_33_0 = true := by decide +kernel
theorem kk_Le_keepChain : Chk GX 3000 202 ct_Le_keepChain := ⟨ke_Le_keepChain, fun pc as h => (show BT.AllP (fun pc as => ∀ a ∈ as, chkA GX 3000 202 ct_Le_keepChain pc a = true) ct_Le_keepChain.cut from ⟨⟨List.forall_mem_cons.mpr ⟨ka_Le_keepChain_33_0, fun a ha => by cases ha⟩, trivial⟩, trivial⟩).at h⟩
theorem ke_H_stands : chkE GX 3000 203 ct_H_stands = true := by decide +kernel
theorem kk_H_stands : Chk GX 3000 203 ct_H_stands := ⟨ke_H_stands, fun pc as h => (show BT.AllP (fun pc as => ∀ a ∈ as, chkA GX 3000 203 ct_H_stands pc a = true) ct_H_stands.cut from trivial).at h⟩
theorem ke_H_chain : chkE GX 3000 204 ct_H_chain = true := by decide +kernel
theorem kk_H_chain : Chk GX 3000 204 ct_H_chain := ⟨ke_H_chain, fun pc as h => (show BT.AllP (fun pc as => ∀ a ∈ as, chkA GX 3000 204 ct_H_chain pc a = true) ct_H_chain.cut from trivial).at h⟩
theorem ke_Le_spendChain : chkE GX 3000 205 ct_Le_spendChain = true := by decide +kernel
theorem ka_Le_spendChain_2_0 : chkA GX 3000 205 ct_Le_spendChain 2 ca_Le_spendChain_2_0 = true := by decide +kernel
theorem kk_Le_spendChain : Chk GX 3000 205 ct_Le_spendChain := ⟨ke_Le_spendChain, fun pc as h => (show BT.AllP (fun pc as => ∀ a ∈ as, chkA GX 3000 205 ct_Le_spendChain pc a = true) ct_Le_spendChain.cut from ⟨⟨List.forall_mem_cons.mpr ⟨ka_Le_spendChain_2_0, fun a ha => by cases ha⟩, trivial⟩, trivial⟩).at h⟩
theorem ke_H_useRight : chkE GX 3000 206 ct_H_useRight = true := by decide +kernel
theorem kk_H_useRight : Chk GX 3000 206 ct_H_useRight := ⟨ke_H_useRight, fun pc as h => (show BT.AllP (fun pc as => ∀ a ∈ as, chkA GX 3000 206 ct_H_useRight pc a = true) ct_H_useRight.cut from trivial).at h⟩
theorem ke_H_lendOf : chkE GX 3000 207 ct_H_lendOf = true := by decide +kernel
theorem kk_H_lendOf : Chk GX 3000 207 ct_H_lendOf := ⟨ke_H_lendOf, fun pc as h => (show BT.AllP (fun pc as => ∀ a ∈ as, chkA GX 3000 207 ct_H_lendOf pc a = true) ct_H_lendOf.cut from trivial).at h⟩
theorem ke_H_key : chkE GX 3000 210 ct_H_key = true := by decide +kernel
theorem kk_H_key : Chk GX 3000 210 ct_H_key := ⟨ke_H_key, fun pc as h => (show BT.AllP (fun pc as => ∀ a ∈ as, chkA GX 3000 210 ct_H_key pc a = true) ct_H_key.cut from trivial).at h⟩
theorem ke_Le_pass : chkE GX 3000 211 ct_Le_pass = true := by decide +kernel
theorem kk_Le_pass : Chk GX 3000 211 ct_Le_pass := ⟨ke_Le_pass, fun pc as h => (show BT.AllP (fun pc as => ∀ a ∈ as, chkA GX 3000 211 ct_Le_pass pc a = true) ct_Le_pass.cut from trivial).at h⟩
theorem ke_Le_goRound : chkE GX 3000 212 ct_Le_goRound = true := by decide +kernel
theorem ka_Le_goRound_2_0 : chkA GX 3000 212 ct_Le_goRound 2 ca_Le_goRound_2_0 = true := by decide +kernel
theorem ka_Le_goRound_10_0 : chkA GX 3000 212 ct_Le_goRound 10 ca_Le_goRound_10_0 = true := by decide +kernel
theorem ka_Le_goRound_18_0 : chkA GX 3000 212 ct_Le_goRound 18 ca_Le_goRound_18_0 = true := by decide +kernel
theorem kk_Le_goRound : Chk GX 3000 212 ct_Le_goRound := ⟨ke_Le_goRound, fun pc as h => (show BT.AllP (fun pc as => ∀ a ∈ as, chkA GX 3000 212 ct_Le_goRound pc a = true) ct_Le_goRound.cut from ⟨⟨List.forall_mem_cons.mpr ⟨ka_Le_goRound_2_0, fun a ha => by cases ha⟩, trivial⟩, ⟨List.forall_mem_cons.mpr ⟨ka_Le_goRound_10_0, fun a ha => by cases ha⟩, trivial⟩, ⟨List.forall_mem_cons.mpr ⟨ka_Le_goRound_18_0, fun a ha => by cases ha⟩, trivial⟩, trivial⟩).at h⟩
theorem ke_Le_countGains : chkE GX 3000 213 ct_Le_countGains = true := by decide +kernel
theorem ka_Le_countGains_24_0 : chkA GX 3000 213 ct_Le_countGains 24 ca_Le_countGains_24_0 = true := by decide +kernel
theorem ka_Le_countGains_51_0 : chkA GX 3000 213 ct_Le_countGains 51 ca_Le_countGains_51_0 = true := by decide +kernel
theorem kk_Le_countGains : Chk GX 3000 213 ct_Le_countGains := ⟨ke_Le_countGains, fun pc as h => (show BT.AllP (fun pc as => ∀ a ∈ as, chkA GX 3000 213 ct_Le_countGains pc a = true) ct_Le_countGains.cut from ⟨⟨List.forall_mem_cons.mpr ⟨ka_Le_countGains_24_0, fun a ha => by cases ha⟩, trivial⟩, ⟨List.forall_mem_cons.mpr ⟨ka_Le_countGains_51_0, fun a ha => by cases ha⟩, trivial⟩, trivial⟩).at h⟩
theorem ke_Le_gainsUntil : chkE GX 3000 214 ct_Le_gainsUntil = true := by decide +kernel
theorem ka_Le_gainsUntil_33_0 : chkA GX 3000 214 ct_Le_gainsUntil 33 ca_Le_gainsUntil_33_0 = true := by decide +kernel
theorem kk_Le_gainsUntil : Chk GX 3000 214 ct_Le_gainsUntil := ⟨ke_Le_gainsUntil, fun pc as h => (show BT.AllP (fun pc as => ∀ a ∈ as, chkA GX 3000 214 ct_Le_gainsUntil pc a = true) ct_Le_gainsUntil.cut from ⟨⟨List.forall_mem_cons.mpr ⟨ka_Le_gainsUntil_33_0, fun a ha => by cases ha⟩, trivial⟩, trivial⟩).at h⟩
theorem ke_H_ever : chkE GX 3000 215 ct_H_ever = true := by decide +kernel
theorem kk_H_ever : Chk GX 3000 215 ct_H_ever := ⟨ke_H_ever, fun pc as h => (show BT.AllP (fun pc as => ∀ a ∈ as, chkA GX 3000 215 ct_H_ever pc a = true) ct_H_ever.cut from trivial).at h⟩
theorem ke_H_gain : chkE GX 3000 216 ct_H_gain = true := by decide +kernel
theorem kk_H_gain : Chk GX 3000 216 ct_H_gain := ⟨ke_H_gain, fun pc as h => (show BT.AllP (fun pc as => ∀ a ∈ as, chkA GX 3000 216 ct_H_gain pc a = true) ct_H_gain.cut from trivial).at h⟩
theorem ke_H_label : chkE GX 3000 217 ct_H_label = true := by decide +kernel
theorem kk_H_label : Chk GX 3000 217 ct_H_label := ⟨ke_H_label, fun pc as h => (show BT.AllP (fun pc as => ∀ a ∈ as, chkA GX 3000 217 ct_H_label pc a = true) ct_H_label.cut from trivial).at h⟩
theorem ke_Fl_reachesOut : chkE GX 3000 222 ct_Fl_reachesOut = true := by decide +kernel
theorem ka_Fl_reachesOut_8_0 : chkA GX 3000 222 ct_Fl_reachesOut 8 ca_Fl_reachesOut_8_0 = true := by decide +kernel
theorem kk_Fl_reachesOut : Chk GX 3000 222 ct_Fl_reachesOut := ⟨ke_Fl_reachesOut, fun pc as h => (show BT.AllP (fun pc as => ∀ a ∈ as, chkA GX 3000 222 ct_Fl_reachesOut pc a = true) ct_Fl_reachesOut.cut from ⟨⟨List.forall_mem_cons.mpr ⟨ka_Fl_reachesOut_8_0, fun a ha => by cases ha⟩, trivial⟩, trivial⟩).at h⟩
