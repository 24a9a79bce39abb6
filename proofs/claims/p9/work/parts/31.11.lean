theorem ke_H_ask : chkE GX 3000 144 ct_H_ask = true := by decide +kernel
theorem kk_H_ask : Chk GX 3000 144 ct_H_ask := ⟨ke_H_ask, fun pc as h => (show BT.AllP (fun pc as => ∀ a ∈ as, chkA GX 3000 144 ct_H_ask pc a = true) ct_H_ask.cut from trivial).at h⟩
theorem ke_H_asked : chkE GX 3000 145 ct_H_asked = true := by decide +kernel
theorem kk_H_asked : Chk GX 3000 145 ct_H_asked := ⟨ke_H_asked, fun pc as h => (show BT.AllP (fun pc as => ∀ a ∈ as, chkA GX 3000 145 ct_H_asked pc a = true) ct_H_asked.cut from trivial).at h⟩
theorem ke_H_made : chkE GX 3000 146 ct_H_made = true := by decide +kernel
theorem kk_H_made : Chk GX 3000 146 ct_H_made := ⟨ke_H_made, fun pc as h => (show BT.AllP (fun pc as => ∀ a ∈ as, chkA GX 3000 146 ct_H_made pc a = true) ct_H_made.cut from trivial).at h⟩
theorem ke_Ju_thingAllowed : chkE GX 3000 147 ct_Ju_thingAllowed = true := by decide +kernel
theorem ka_Ju_thingAllowed_6_0 : chkA GX 3000 147 ct_Ju_thingAllowed 6 ca_Ju_thingAllowed_6_0 = true := by decide +kernel
theorem kk_Ju_thingAllowed : Chk GX 3000 147 ct_Ju_thingAllowed := ⟨ke_Ju_thingAllowed, fun pc as h => (show BT.AllP (fun pc as => ∀ a ∈ as, chkA GX 3000 147 ct_Ju_thingAllowed pc a = true) ct_Ju_thingAllowed.cut from ⟨⟨List.forall_mem_cons.mpr ⟨ka_Ju_thingAllowed_6_0, fun a ha => by cases ha⟩, trivial⟩, trivial⟩).at h⟩
theorem ke_H_may : chkE GX 3000 148 ct_H_may = true := by decide +kernel
theorem kk_H_may : Chk GX 3000 148 ct_H_may := ⟨ke_H_may, fun pc as h => (show BT.AllP (fun pc as => ∀ a ∈ as, chkA GX 3000 148 ct_H_may pc a = true) ct_H_may.cut from trivial).at h⟩
theorem ke_Ju_personAllowed : chkE GX 3000 149 ct_Ju_personAllowed = true := by decide +kernel
theorem ka_Ju_personAllowed_7_0 : chkA GX 3000 149 ct_Ju_personAllowed 7 ca_Ju_personAllowed_7_0 = true := by decide +kernel
theorem kk_Ju_personAllowed : Chk GX 3000 149 ct_Ju_personAllowed := ⟨ke_Ju_personAllowed, fun pc as h => (show BT.AllP (fun pc as => ∀ a ∈ as, chkA GX 3000 149 ct_Ju_personAllowed pc a = true) ct_Ju_personAllowed.cut from ⟨⟨List.forall_mem_cons.mpr ⟨ka_Ju_personAllowed_7_0, fun a ha => by cases ha⟩, trivial⟩, trivial⟩).at h⟩
theorem ke_H_who : chkE GX 3000 150 ct_H_who = true := by decide +kernel
theorem kk_H_who : Chk GX 3000 150 ct_H_who := ⟨ke_H_who, fun pc as h => (show BT.AllP (fun pc as => ∀ a ∈ as, chkA GX 3000 150 ct_H_who pc a = true) ct_H_who.cut from trivial).at h⟩
theorem ke_Ju_differences : chkE GX 3000 152 ct_Ju_differences = true := by decide +kernel
theorem ka_Ju_differences_65_0 : chkA GX 3000 152 ct_Ju_differences 65 ca_Ju_differences_65_0 = true := by decide +kernel
theorem ka_Ju_differences_103_0 : chkA GX 3000 152 ct_Ju_differences 103 ca_Ju_differences_103_0 = true := by decide +kernel
theorem ka_Ju_differences_113_0 : chkA GX 3000 152 ct_Ju_differences 113 ca_Ju_differences_113_0 = true := by decide +kernel
theorem kk_Ju_differences : Chk GX 3000 152 ct_Ju_differences := ⟨ke_Ju_differences, fun pc as h => (show BT.AllP (fun pc as => ∀ a ∈ as, chkA GX 3000 152 ct_Ju_differences pc a = true) ct_Ju_differences.cut from ⟨⟨List.forall_mem_cons.mpr ⟨ka_Ju_differences_65_0, fun a ha => by cases ha⟩, trivial⟩, ⟨List.forall_mem_cons.mpr ⟨ka_Ju_differences_103_0, fun a ha => by cases ha⟩, trivial⟩, ⟨List.forall_mem_cons.mpr ⟨ka_Ju_differences_113_0, fun a ha => by cases ha⟩, trivial⟩, trivial⟩).at h⟩
theorem ke_H_compare : chkE GX 3000 153 ct_H_compare = true := by decide +kernel
theorem kk_H_compare : Chk GX 3000 153 ct_H_compare := ⟨ke_H_compare, fun pc as h => (show BT.AllP (fun pc as => ∀ a ∈ as, chkA GX 3000 153 ct_H_compare pc a = true) ct_H_compare.cut from trivial).at h⟩
theorem ke_H_compared : chkE GX 3000 154 ct_H_compared = true := by decide +kernel
theorem kk_H_compared : Chk GX 3000 154 ct_H_compared := ⟨ke_H_compared, fun pc as h => (show BT.AllP (fun pc as => ∀ a ∈ as, chkA GX 3000 154 ct_H_compared pc a = true) ct_H_compared.cut from trivial).at h⟩
theorem ke_Ju_decidedBy : chkE GX 3000 155 ct_Ju_decidedBy = true := by decide +kernel
theorem ka_Ju_decidedBy_15_0 : chkA GX 3000 155 ct_Ju_decidedBy 15 ca_Ju_decidedBy_15_0 = true := by decide +kernel
theorem ka_Ju_decidedBy_53_0 : chkA GX 3000 155 ct_Ju_decidedBy 53 ca_Ju_decidedBy_53_0 = true := by decide +kernel
theorem ka_Ju_decidedBy_63_0 : chkA GX 3000 155 ct_Ju_decidedBy 63 ca_Ju_decidedBy_63_0 = true := by decide +kernel
theorem kk_Ju_decidedBy : Chk GX 3000 155 ct_Ju_decidedBy := ⟨ke_Ju_decidedBy, fun pc as h => (show BT.AllP (fun pc as => ∀ a ∈ as, chkA GX 3000 155 ct_Ju_decidedBy pc a = true) ct_Ju_decidedBy.cut from ⟨⟨List.forall_mem_cons.mpr ⟨ka_Ju_decidedBy_15_0, fun a ha => by cases ha⟩, trivial⟩, ⟨List.forall_mem_cons.mpr ⟨ka_Ju_decidedBy_53_0, fun a ha => by cases ha⟩, trivial⟩, ⟨List.forall_mem_cons.mpr ⟨ka_Ju_decidedBy_63_0, fun a ha => by cases ha⟩, trivial⟩, trivial⟩).at h⟩
theorem ke_H_decides : chkE GX 3000 156 ct_H_decides = true := by decide +kernel
theorem kk_H_decides : Chk GX 3000 156 ct_H_decides := ⟨ke_H_decides, fun pc as h => (show BT.AllP (fun pc as => ∀ a ∈ as, chkA GX 3000 156 ct_H_decides pc a = true) ct_H_decides.cut from trivial).at h⟩
theorem ke_Ro_isBothOn : chkE GX 3000 160 ct_Ro_isBothOn = true := by decide +kernel
theorem ka_Ro_isBothOn_2_0 : chkA GX 3000 160 ct_Ro_isBothOn 2 ca_Ro_isBothOn_2_0 = true := by decide +kernel
theorem kk_Ro_isBothOn : Chk GX 3000 160 ct_Ro_isBothOn := ⟨ke_Ro_isBothOn, fun pc as h => (show BT.AllP (fun pc as => ∀ a ∈ as, chkA GX 3000 160 ct_Ro_isBothOn pc a = true) ct_Ro_isBothOn.cut from ⟨⟨List.forall_mem_cons.mpr ⟨ka_Ro_isBothOn_2_0, fun a ha => by cases ha⟩, trivial⟩, trivial⟩).at h⟩
theorem ke_Ro_doesLawHold : chkE GX 3000 161 ct_Ro_doesLawHold = true := by decide +kernel
theorem ka_Ro_doesLawHold_42_0 : chkA GX 3000 161 ct_Ro_doesLawHold 42 ca_Ro_doesLawHold_42_0 = true := by decide +kernel
theorem kk_Ro_doesLawHold : Chk GX 3000 161 ct_Ro_doesLawHold := ⟨ke_Ro_doesLawHold, fun pc as h => (show BT.AllP (fun pc as => ∀ a ∈ as, chkA GX 3000 161 ct_Ro_doesLawHold pc a = true) ct_Ro_doesLawHold.cut from ⟨⟨List.forall_mem_cons.mpr ⟨ka_Ro_doesLawHold_42_0, fun a ha => by cases ha⟩, trivial⟩, trivial⟩).at h⟩
theorem ke_Ro_firstNotHolding : chkE GX 3000 162 ct_Ro_firstNotHolding = true := by decide +kernel
theorem ka_Ro_firstNotHolding_3_0 : chkA GX 3000 162 ct_Ro_firstNotHolding 3 ca_Ro_firstNotHolding_3_0 = true := by decide +kernel
theorem ka_Ro_firstNotHolding_42_0 : chkA GX 3000 162 ct_Ro_firstNotHolding 42 ca_Ro_firstNotHolding_42_0 = true := by decide +kernel
theorem kk_Ro_firstNotHolding : Chk GX 3000 162 ct_Ro_firstNotHolding := ⟨ke_Ro_firstNotHolding, fun pc as h => (show BT.AllP (fun pc as => ∀ a ∈ as, chkA GX 3000 162 ct_Ro_firstNotHolding pc a = true) ct_Ro_firstNotHolding.cut from ⟨⟨List.forall_mem_cons.mpr ⟨ka_Ro_firstNotHolding_3_0, fun a ha => by cases ha⟩, trivial⟩, ⟨List.forall_mem_cons.mpr ⟨ka_Ro_firstNotHolding_42_0, fun a ha => by cases ha⟩, trivial⟩, trivial⟩).at h⟩
theorem ke_H_broken : chkE GX 3000 167 ct_H_broken = true := by decide +kernel
theorem kk_H_broken : Chk GX 3000 167 ct_H_broken := ⟨ke_H_broken, fun pc as h => (show BT.AllP (fun pc as => ∀ a ∈ as, chkA GX 3000 167 ct_H_broken pc a = true) ct_H_broken.cut from trivial).at h⟩
theorem ke_H_breach : chkE GX 3000 168 ct_H_breach = true := by decide +kernel
theorem kk_H_breach : Chk GX 3000 168 ct_H_breach := ⟨ke_H_breach, fun pc as h => (show BT.AllP (fun pc as => ∀ a ∈ as, chkA GX 3000 168 ct_H_breach pc a = true) ct_H_breach.cut from trivial).at h⟩
theorem ke_H_session : chkE GX 3000 170 ct_H_session = true := by decide +kernel
theorem kk_H_session : Chk GX 3000 170 ct_H_session := ⟨ke_H_session, fun pc as h => (show BT.AllP (fun pc as => ∀ a ∈ as, chkA GX 3000 170 ct_H_session pc a = true) ct_H_session.cut from trivial).at h⟩
theorem ke_Ro_turnOn : chkE GX 3000 171 ct_Ro_turnOn = true := by decide +kernel
theorem kk_Ro_turnOn : Chk GX 3000 171 ct_Ro_turnOn := ⟨ke_Ro_turnOn, fun pc as h => (show BT.AllP (fun pc as => ∀ a ∈ as, chkA GX 3000 171 ct_Ro_turnOn pc a = true) ct_Ro_turnOn.cut from trivial).at h⟩
theorem ke_H_switchOn : chkE GX 3000 172 ct_H_switchOn = true := by decide +kernel
theorem kk_H_switchOn : Chk GX 3000 172 ct_H_switchOn := ⟨ke_H_switchOn, fun pc as h => (show BT.AllP (fun pc as => ∀ a ∈ as, chkA GX 3000 172 ct_H_switchOn pc a = true) ct_H_switchOn.cut from trivial).at h⟩
theorem ke_H_switchOff : chkE GX 3000 173 ct_H_switchOff = true := by decide +kernel
theorem kk_H_switchOff : Chk GX 3000 173 ct_H_switchOff := ⟨ke_H_switchOff, fun pc as h => (show BT.AllP (fun pc as => ∀ a ∈ as, chkA GX 3000 173 ct_H_switchOff pc a = true) ct_H_switchOff.cut from trivial).at h⟩
theorem ke_Ro_groupsIn : chkE GX 3000 174 ct_Ro_groupsIn = true := by decide +kernel
theorem kk_Ro_groupsIn : Chk GX 3000 174 ct_Ro_groupsIn := ⟨ke_Ro_groupsIn, fun pc as h => (show BT.AllP (fun pc as => ∀ a ∈ as, chkA GX 3000 174 ct_Ro_groupsIn pc a = true) ct_Ro_groupsIn.cut from trivial).at h⟩
theorem ke_H_askIn : chkE GX 3000 175 ct_H_askIn = true := by decide +kernel
theorem kk_H_askIn : Chk GX 3000 175 ct_H_askIn := ⟨ke_H_askIn, fun pc as h => (show BT.AllP (fun pc as => ∀ a ∈ as, chkA GX 3000 175 ct_H_askIn pc a = true) ct_H_askIn.cut from trivial).at h⟩
theorem ke_H_work : chkE GX 3000 176 ct_H_work = true := by decide +kernel
theorem kk_H_work : Chk GX 3000 176 ct_H_work := ⟨ke_H_work, fun pc as h => (show BT.AllP (fun pc as => ∀ a ∈ as, chkA GX 3000 176 ct_H_work pc a = true) ct_H_work.cut from trivial).at h⟩
theorem ke_H_step : chkE GX 3000 178 ct_H_step = true := by decide +kernel
theorem kk_H_step : Chk GX 3000 178 ct_H_step := ⟨ke_H_step, fun pc as h => (show BT.AllP (fun pc as => ∀ a ∈ as, chkA GX 3000 178 ct_H_step pc a = true) ct_H_step.cut from trivial).at h⟩
theorem ke_H_tie : chkE GX 3000 180 ct_H_tie = true := by decide +kernel
theorem kk_H_tie : Chk GX 3000 180 ct_H_tie := ⟨ke_H_tie, fun pc as h => (show BT.AllP (fun pc as => ∀ a ∈ as, chkA GX 3000 180 ct_H_tie pc a = true) ct_H_tie.cut from trivial).at h⟩
theorem ke_Wo_prepare : chkE GX 3000 182 ct_Wo_prepare = true := by decide +kernel
theorem ka_Wo_prepare_8_0 : chkA GX 3000 182 ct_Wo_prepare 8 ca_Wo_prepare_8_0 = true := by decide +kernel
theorem ka_Wo_prepare_67_0 : chkA GX 3000 182 ct_Wo_prepare 67 ca_Wo_prepare_67_0 = true := by decide +kernel
theorem ka_Wo_prepare_105_0 : chkA GX 3000 182 ct_Wo_prepare 105 ca_Wo_prepare_105_0 = true := by decide +kernel
theorem kk_Wo_prepare : Chk GX 3000 182 ct_Wo_prepare := ⟨ke_Wo_prepare, fun pc as h => (show BT.AllP (fun pc as => ∀ a ∈ as, chkA GX 3000 182 ct_Wo_prepare pc a = true) ct_Wo_prepare.cut from ⟨⟨List.forall_mem_cons.mpr ⟨ka_Wo_prepare_8_0, fun a ha => by cases ha⟩, trivial⟩, ⟨List.forall_mem_cons.mpr ⟨ka_Wo_prepare_67_0, fun a ha => by cases ha⟩, trivial⟩, ⟨List.forall_mem_cons.mpr ⟨ka_Wo_prepare_105_0, fun a ha => by cases ha⟩, trivial⟩, trivial⟩).at h⟩
theorem ke_Wo_hasAnybodyMoreThan : chkE GX 3000 183 ct_Wo_hasAnybodyMoreThan = true := by decide +kernel
theorem ka_Wo_hasAnybodyMoreThan_2_0 : chkA GX 3000 183 ct_Wo_hasAnybodyMoreThan 2 ca_Wo_hasAnybodyMoreThan_2_0 = true := by decide +kernel
theorem ka_Wo_hasAnybodyMoreThan_13_0 : chkA GX 3000 183 ct_Wo_hasAnybodyMoreThan 13 ca_Wo_hasAnybodyMoreThan_13_0 = true := by decide +kernel
theorem kk_Wo_hasAnybodyMoreThan : Chk GX 3000 183 ct_Wo_hasAnybodyMoreThan := ⟨ke_Wo_hasAnybodyMoreThan, fun pc as h => (show BT.AllP (fun pc as => ∀ a ∈ as, chkA GX 3000 183 ct_Wo_hasAnybodyMoreThan pc a = true) ct_Wo_hasAnybodyMoreThan.cut from ⟨⟨List.forall_mem_cons.mpr ⟨ka_Wo_hasAnybodyMoreThan_2_0, fun a ha => by cases ha⟩, trivial⟩, ⟨List.forall_mem_cons.mpr ⟨ka_Wo_hasAnybodyMoreThan_13_0, fun a ha => by cases ha⟩, trivial⟩, trivial⟩).at h⟩
theorem ke_Wo_doTiesHold : chkE GX 3000 184 ct_Wo_doTiesHold = true := by decide +kernel
theorem ka_Wo_doTiesHold_5_0 : chkA GX 3000 184 ct_Wo_doTiesHold 5 ca_Wo_doTiesHold_5_0 = true := by decide +kernel
theorem kk_Wo_doTiesHold : Chk GX 3000 184 ct_Wo_doTiesHold := ⟨ke_Wo_doTiesHold, fun pc as h => (show BT.AllP (fun pc as => ∀ a ∈ as, chkA GX 3000 184 ct_Wo_doTiesHold pc a = true) ct_Wo_doTiesHold.cut from ⟨⟨List.forall_mem_cons.mpr ⟨ka_Wo_doTiesHold_5_0, fun a ha => by cases ha⟩, trivial⟩, trivial⟩).at h⟩
theorem ke_Wo_searchFrom : chkE GX 3000 185 ct_Wo_searchFrom = true := by decide +kernel
theorem ka_Wo_searchFrom_53_0 : chkA GX 3000 185 ct_Wo_searchFrom 53 ca_Wo_searchFrom_53_0 = true := by decide +kernel
theorem kk_Wo_searchFrom : Chk GX 3000 185 ct_Wo_searchFrom := ⟨ke_Wo_searchFrom, fun pc as h => (show BT.AllP (fun pc as => ∀ a ∈ as, chkA GX 3000 185 ct_Wo_searchFrom pc a = true) ct_Wo_searchFrom.cut from ⟨⟨List.forall_mem_cons.mpr ⟨ka_Wo_searchFrom_53_0, fun a ha => by cases ha⟩, trivial⟩, trivial⟩).at h⟩
theorem ke_Wo_search : chkE GX 3000 186 ct_Wo_search = true := by decide +kernel
theorem kk_Wo_search : Chk GX 3000 186 ct_Wo_search := ⟨ke_Wo_search, fun pc as h => (show BT.AllP (fun pc as => ∀ a ∈ as, chkA GX 3000 186 ct_Wo_search pc a = true) ct_Wo_search.cut from trivial).at h⟩
theorem ke_Wo_keep : chkE GX 3000 187 ct_Wo_keep = true := by decide +kernel
theorem ka_Wo_keep_2_0 : chkA GX 3000 187 ct_Wo_keep 2 ca_Wo_keep_2_0 = true := by decide +kernel
theorem kk_Wo_keep : Chk GX 3000 187 ct_Wo_keep := ⟨ke_Wo_keep, fun pc as h => (show BT.AllP (fun pc as => ∀ a ∈ as, chkA GX 3000 187 ct_Wo_keep pc a = true) ct_Wo_keep.cut from ⟨⟨List.forall_mem_cons.mpr ⟨ka_Wo_keep_2_0, fun a ha => by cases ha⟩, trivial⟩, trivial⟩).at h⟩
theorem ke_H_fill : chkE GX 3000 188 ct_H_fill = true := by decide +kernel
theorem kk_H_fill : Chk GX 3000 188 ct_H_fill := ⟨ke_H_fill, fun pc as h => (show BT.AllP (fun pc as => ∀ a ∈ as, chkA GX 3000 188 ct_H_fill pc a = true) ct_H_fill.cut from trivial).at h⟩
theorem ke_H_filled : chkE GX 3000 189 ct_H_filled = true := by decide +kernel
theorem kk_H_filled : Chk GX 3000 189 ct_H_filled := ⟨ke_H_filled, fun pc as h => (show BT.AllP (fun pc as => ∀ a ∈ as, chkA GX 3000 189 ct_H_filled pc a = true) ct_H_filled.cut from trivial).at h⟩
theorem ke_Wo_searchWith : chkE GX 3000 190 ct_Wo_searchWith = true := by decide +kernel
theorem kk_Wo_searchWith : Chk GX 3000 190 ct_Wo_searchWith := ⟨ke_Wo_searchWith, fun pc as h => (show BT.AllP (fun pc as => ∀ a ∈ as, chkA GX 3000 190 ct_Wo_searchWith pc a = true) ct_Wo_searchWith.cut from trivial).at h⟩
theorem ke_H_next : chkE GX 3000 191 ct_H_next = true := by decide +kernel
theorem kk_H_next : Chk GX 3000 191 ct_H_next := ⟨ke_H_next, fun pc as h => (show BT.AllP (fun pc as => ∀ a ∈ as, chkA GX 3000 191 ct_H_next pc a = true) ct_H_next.cut from trivial).at h⟩
theorem ke_H_perform : chkE GX 3000 192 ct_H_perform = true := by decide +kernel
theorem kk_H_perform : Chk GX 3000 192 ct_H_perform := ⟨ke_H_perform, fun pc as h => (show BT.AllP (fun pc as => ∀ a ∈ as, chkA GX 3000 192 ct_H_perform pc a = true) ct_H_perform.cut from trivial).at h⟩
theorem ke_Wo_hasDone : chkE GX 3000 193 ct_Wo_hasDone = true := by decide +kernel
