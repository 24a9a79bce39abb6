theorem ke_H_ask : chkE GX 3000 144 ct_H_ask = true := by decide +kernel
theorem kk_H_ask : Chk GX 3000 144 ct_H_ask := ⟨ke_H_ask, fun pc as h => (show BT.AllP (fun pc as => ∀ a ∈ as, chkA GX 3000 144 ct_H_ask pc a = true) ct_H_ask.cut from trivial).at h⟩
theorem ke_H_asked : chkE GX 3000 145 ct_H_asked = true := by decide +kernel
theorem kk_H_asked : Chk GX 3000 145 ct_H_asked := ⟨ke_H_asked, fun pc as h => (show BT.AllP (fun pc as => ∀ a ∈ as, chkA GX 3000 145 ct_H_asked pc a = true) ct_H_asked.cut from trivial).at h⟩
theorem ke_H_made : chkE GX 3000 146 ct_H_made = true := by decide +kernel
theorem kk_H_made : Chk GX 3000 146 ct_H_made := ⟨ke_H_made, fun pc as h => (show BT.AllP (fun pc as => ∀ a ∈ as, chkA GX 3000 146 ct_H_made pc a = true) ct_H_made.cut from trivial).at h⟩
theorem ke_Ju_thingAllowed : chkE GX 3000 147 ct_Ju_thingAllowed = true := by decide +kernel
theorem ka_Ju_thingAllowed_6_0 : chkA GX 3000 147 ct_Ju_thingAllowed 6 ca_Ju_thingAllowed_6_0 = true := by decide +kernel
theorem kk_Ju_thingAllowed : Chk GX 3000 147 ct_Ju_thingAllowed := ⟨ke_Ju_thingAllowed, fun pc as h => (show BT.AllP (fun pc as => ∀ a ∈ as, chkA GX 3000 147 ct_Ju_thingAllowed pc a = true) ct_Ju_thingAllowed.cut from ⟨⟨List.forall_mem_cons.mpr ⟨ka_Ju_thingAllowed_6_0, fun a ha => by cases ha⟩, trivial⟩, trivial⟩).at h⟩
theorem ke_H_may : chkE GX 3000 148 ct_H_may = true := by decide +kernel
theorem kk_H_may : Chk GX 3000 148 ct_H_may := ⟨ke_H_may, fun pc as h => (show BT.AllP (fun pc as => ∀ a ∈ as, chkA GX 3000 148 ct_H_may pc a = true) ct_H_may.cut from trivial).at h⟩
theorem ke_Ju_personAllowed : chkE GX 3000 149 ct_Ju_personAllowed = true := by decide +kernel
theorem ka_Ju_personAllowed_7_0 : chkA GX 3000 149 ct_Ju_personAllowed 7 ca_Ju_personAllowed_7_0 = true := by decide +kernel
theorem kk_Ju_personAllowed : Chk GX 3000 149 ct_Ju_personAllowed := ⟨ke_Ju_personAllowed, fun pc as h => (show BT.AllP (fun pc as => ∀ a ∈ as, chkA GX 3000 149 ct_Ju_personAllowed pc a = true) ct_Ju_personAllowed.cut from ⟨⟨List.forall_mem_cons.mpr ⟨ka_Ju_personAllowed_7_0, fun a ha => by cases ha⟩, trivial⟩, trivial⟩).at h⟩
theorem ke_H_who : chkE GX 3000 150 ct_H_who = true := by decide +kernel
theorem kk_H_who : Chk GX 3000 150 ct_H_who := ⟨ke_H_who, fun pc as h => (show BT.AllP (fun pc as => ∀ a ∈ as, chkA GX 3000 150 ct_H_who pc a = true) ct_H_who.cut from trivial).at h⟩
theorem ke_Ju_differences : chkE GX 3000 152 ct_Ju_differences = true := by decide +kernel
theorem ka_Ju_differences_65_0 : chkA GX 3000 152 ct_Ju_differences 65 ca_Ju_differences_65_0 = true := by decide +kernel
theorem ka_Ju_differences_103_0 : chkA GX 3000 152 ct_Ju_differences 103 ca_Ju_differences_103_0 = true := by decide +kernel
theorem ka_Ju_differences_113_0 : chkA GX 3000 152 ct_Ju_differences 113 ca_Ju_differences_113_0 = true := by decide +kernel
theorem kk_Ju_differences : Chk GX 3000 152 ct_Ju_differences := ⟨ke_Ju_differences, fun pc as h => (show BT.AllP (fun pc as => ∀ a ∈ as, chkA GX 3000 152 ct_Ju_differences pc a = true) ct_Ju_differences.cut from ⟨⟨List.forall_mem_cons.mpr ⟨ka_Ju_differences_65_0, fun a ha => by cases ha⟩, trivial⟩, ⟨List.forall_mem_cons.mpr ⟨ka_Ju_differences_103_0, fun a ha => by cases ha⟩, trivial⟩, ⟨List.forall_mem_cons.mpr ⟨ka_Ju_differences_113_0, fun a ha => by cases ha⟩, trivial⟩, trivial⟩).at h⟩
theorem ke_H_compare : chkE GX 3000 153 ct_H_compare = true := by decide +kernel
theorem kk_H_compare : Chk GX 3000 153 ct_H_compare := ⟨ke_H_compare, fun pc as h => (show BT.AllP (fun pc as => ∀ a ∈ as, chkA GX 3000 153 ct_H_compare pc a = true) ct_H_compare.cut from trivial).at h⟩
theorem ke_H_compared : chkE GX 3000 154 ct_H_compared = true := by decide +kernel
theorem kk_H_compared : Chk GX 3000 154 ct_H_compared := ⟨ke_H_compared, fun pc as h => (show BT.AllP (fun pc as => ∀ a ∈ as, chkA GX 3000 154 ct_H_compared pc a = true) ct_H_compared.cut from trivial).at h⟩
theorem ke_Ju_decidedBy : chkE GX 3000 155 ct_Ju_decidedBy = true := by decide +kernel
theorem ka_Ju_decidedBy_15_0 : chkA GX 3000 155 ct_Ju_decidedBy 15 ca_Ju_decidedBy_15_0 = true := by decide +kernel
theorem ka_Ju_decidedBy_53_0 : chkA GX 3000 155 ct_Ju_decidedBy 53 ca_Ju_decidedBy_53_0 = true := by decide +kernel
theorem ka_Ju_decidedBy_63_0 : chkA GX 3000 155 ct_Ju_decidedBy 63 ca_Ju_decidedBy_63_0 = true := by decide +kernel
theorem kk_Ju_decidedBy : Chk GX 3000 155 ct_Ju_decidedBy := ⟨ke_Ju_decidedBy, fun pc as h => (show BT.AllP (fun pc as => ∀ a ∈ as, chkA GX 3000 155 ct_Ju_decidedBy pc a = true) ct_Ju_decidedBy.cut from ⟨⟨List.forall_mem_cons.mpr ⟨ka_Ju_decidedBy_15_0, fun a ha => by cases ha⟩, trivial⟩, ⟨List.forall_mem_cons.mpr ⟨ka_Ju_decidedBy_53_0, fun a ha => by cases ha⟩, trivial⟩, ⟨List.forall_mem_cons.mpr ⟨ka_Ju_decidedBy_63_0, fun a ha => by cases ha⟩, trivial⟩, trivial⟩).at h⟩
theorem ke_H_decides : chkE GX 3000 156 ct_H_decides = true := by decide +kernel
theorem kk_H_decides : Chk GX 3000 156 ct_H_decides := ⟨ke_H_decides, fun pc as h => (show BT.AllP (fun pc as => ∀ a ∈ as, chkA GX 3000 156 ct_H_decides pc a = true) ct_H_decides.cut from trivial).at h⟩
theorem ke_H_law : chkE GX 3000 158 ct_H_law = true := by decide +kernel
theorem kk_H_law : Chk GX 3000 158 ct_H_law := ⟨ke_H_law, fun pc as h => (show BT.AllP (fun pc as => ∀ a ∈ as, chkA GX 3000 158 ct_H_law pc a = true) ct_H_law.cut from trivial).at h⟩
theorem ke_Ro_refusingGiver : chkE GX 3000 159 ct_Ro_refusingGiver = true := by decide +kernel
theorem ka_Ro_refusingGiver_19_0 : chkA GX 3000 159 ct_Ro_refusingGiver 19 ca_Ro_refusingGiver_19_0 = true := by decide +kernel
theorem kk_Ro_refusingGiver : Chk GX 3000 159 ct_Ro_refusingGiver := ⟨ke_Ro_refusingGiver, fun pc as h => (show BT.AllP (fun pc as => ∀ a ∈ as, chkA GX 3000 159 ct_Ro_refusingGiver pc a = true) ct_Ro_refusingGiver.cut from ⟨⟨List.forall_mem_cons.mpr ⟨ka_Ro_refusingGiver_19_0, fun a ha => by cases ha⟩, trivial⟩, trivial⟩).at h⟩
theorem ke_Ro_isBothOn : chkE GX 3000 160 ct_Ro_isBothOn = true := by decide +kernel
theorem ka_Ro_isBothOn_2_0 : chkA GX 3000 160 ct_Ro_isBothOn 2 ca_Ro_isBothOn_2_0 = true := by decide +kernel
theorem kk_Ro_isBothOn : Chk GX 3000 160 ct_Ro_isBothOn := ⟨ke_Ro_isBothOn, fun pc as h => (show BT.AllP (fun pc as => ∀ a ∈ as, chkA GX 3000 160 ct_Ro_isBothOn pc a = true) ct_Ro_isBothOn.cut from ⟨⟨List.forall_mem_cons.mpr ⟨ka_Ro_isBothOn_2_0, fun a ha => by cases ha⟩, trivial⟩, trivial⟩).at h⟩
theorem ke_Ro_doesLawHold : chkE GX 3000 161 ct_Ro_doesLawHold = true := by decide +kernel
theorem ka_Ro_doesLawHold_42_0 : chkA GX 3000 161 ct_Ro_doesLawHold 42 ca_Ro_doesLawHold_42_0 = true := by decide +kernel
theorem kk_Ro_doesLawHold : Chk GX 3000 161 ct_Ro_doesLawHold := ⟨ke_Ro_doesLawHold, fun pc as h => (show BT.AllP (fun pc as => ∀ a ∈ as, chkA GX 3000 161 ct_Ro_doesLawHold pc a = true) ct_Ro_doesLawHold.cut from ⟨⟨List.forall_mem_cons.mpr ⟨ka_Ro_doesLawHold_42_0, fun a ha => by cases ha⟩, trivial⟩, trivial⟩).at h⟩
theorem ke_Ro_firstNotHolding : chkE GX 3000 162 ct_Ro_firstNotHolding = true := by decide +kernel
theorem ka_Ro_firstNotHolding_3_0 : chkA GX 3000 162 ct_Ro_firstNotHolding 3 ca_Ro_firstNotHolding_3_0 = true := by decide +kernel
theorem ka_Ro_firstNotHolding_42_0 : chkA GX 3000 162 ct_Ro_firstNotHolding 42 ca_Ro_firstNotHolding_42_0 = true := by decide +kernel
theorem kk_Ro_firstNotHolding : Chk GX 3000 162 ct_Ro_firstNotHolding := ⟨ke_Ro_firstNotHolding, fun pc as h => (show BT.AllP (fun pc as => ∀ a ∈ as, chkA GX 3000 162 ct_Ro_firstNotHolding pc a = true) ct_Ro_firstNotHolding.cut from ⟨⟨List.forall_mem_cons.mpr ⟨ka_Ro_firstNotHolding_3_0, fun a ha => by cases ha⟩, trivial⟩, ⟨List.forall_mem_cons.mpr ⟨ka_Ro_firstNotHolding_42_0, fun a ha => by cases ha⟩, trivial⟩, trivial⟩).at h⟩
theorem ke_Ro_giveRow : chkE GX 3000 163 ct_Ro_giveRow = true := by decide +kernel
theorem kk_Ro_giveRow : Chk GX 3000 163 ct_Ro_giveRow := ⟨ke_Ro_giveRow, fun pc as h => (show BT.AllP (fun pc as => ∀ a ∈ as, chkA GX 3000 163 ct_Ro_giveRow pc a = true) ct_Ro_giveRow.cut from trivial).at h⟩
theorem ke_H_give : chkE GX 3000 164 ct_H_give = true := by decide +kernel
theorem kk_H_give : Chk GX 3000 164 ct_H_give := ⟨ke_H_give, fun pc as h => (show BT.AllP (fun pc as => ∀ a ∈ as, chkA GX 3000 164 ct_H_give pc a = true) ct_H_give.cut from trivial).at h⟩
theorem ke_Wh_endRows : chkE GX 3000 165 ct_Wh_endRows = true := by decide +kernel
theorem ka_Wh_endRows_6_0 : chkA GX 3000 165 ct_Wh_endRows 6 ca_Wh_endRows_6_0 = true := by decide +kernel
theorem kk_Wh_endRows : Chk GX 3000 165 ct_Wh_endRows := ⟨ke_Wh_endRows, fun pc as h => (show BT.AllP (fun pc as => ∀ a ∈ as, chkA GX 3000 165 ct_Wh_endRows pc a = true) ct_Wh_endRows.cut from ⟨⟨List.forall_mem_cons.mpr ⟨ka_Wh_endRows_6_0, fun a ha => by cases ha⟩, trivial⟩, trivial⟩).at h⟩
theorem ke_H_take : chkE GX 3000 166 ct_H_take = true := by decide +kernel
theorem kk_H_take : Chk GX 3000 166 ct_H_take := ⟨ke_H_take, fun pc as h => (show BT.AllP (fun pc as => ∀ a ∈ as, chkA GX 3000 166 ct_H_take pc a = true) ct_H_take.cut from trivial).at h⟩
theorem ke_H_broken : chkE GX 3000 167 ct_H_broken = true := by decide +kernel
theorem kk_H_broken : Chk GX 3000 167 ct_H_broken := ⟨ke_H_broken, fun pc as h => (show BT.AllP (fun pc as => ∀ a ∈ as, chkA GX 3000 167 ct_H_broken pc a = true) ct_H_broken.cut from trivial).at h⟩
theorem ke_H_breach : chkE GX 3000 168 ct_H_breach = true := by decide +kernel
theorem kk_H_breach : Chk GX 3000 168 ct_H_breach := ⟨ke_H_breach, fun pc as h => (show BT.AllP (fun pc as => ∀ a ∈ as, chkA GX 3000 168 ct_H_breach pc a = true) ct_H_breach.cut from trivial).at h⟩
theorem ke_H_session : chkE GX 3000 170 ct_H_session = true := by decide +kernel
theorem kk_H_session : Chk GX 3000 170 ct_H_session := ⟨ke_H_session, fun pc as h => (show BT.AllP (fun pc as => ∀ a ∈ as, chkA GX 3000 170 ct_H_session pc a = true) ct_H_session.cut from trivial).at h⟩
theorem ke_Ro_turnOn : chkE GX 3000 171 ct_Ro_turnOn = true := by decide +kernel
theorem kk_Ro_turnOn : Chk GX 3000 171 ct_Ro_turnOn := ⟨ke_Ro_turnOn, fun pc as h => (show BT.AllP (fun pc as => ∀ a ∈ as, chkA GX 3000 171 ct_Ro_turnOn pc a = true) ct_Ro_turnOn.cut from trivial).at h⟩
theorem ke_H_switchOn : chkE GX 3000 172 ct_H_switchOn = true := by decide +kernel
theorem kk_H_switchOn : Chk GX 3000 172 ct_H_switchOn := ⟨ke_H_switchOn, fun pc as h => (show BT.AllP (fun pc as => ∀ a ∈ as, chkA GX 3000 172 ct_H_switchOn pc a = true) ct_H_switchOn.cut from trivial).at h⟩
theorem ke_H_switchOff : chkE GX 3000 173 ct_H_switchOff = true := by decide +kernel
theorem kk_H_switchOff : Chk GX 3000 173 ct_H_switchOff := ⟨ke_H_switchOff, fun pc as h => (show BT.AllP (fun pc as => ∀ a ∈ as, chkA GX 3000 173 ct_H_switchOff pc a = true) ct_H_switchOff.cut from trivial).at h⟩
theorem ke_Ro_groupsIn : chkE GX 3000 174 ct_Ro_groupsIn = true := by decide +kernel
theorem kk_Ro_groupsIn : Chk GX 3000 174 ct_Ro_groupsIn := ⟨ke_Ro_groupsIn, fun pc as h => (show BT.AllP (fun pc as => ∀ a ∈ as, chkA GX 3000 174 ct_Ro_groupsIn pc a = true) ct_Ro_groupsIn.cut from trivial).at h⟩
theorem ke_H_askIn : chkE GX 3000 175 ct_H_askIn = true := by decide +kernel
theorem kk_H_askIn : Chk GX 3000 175 ct_H_askIn := ⟨ke_H_askIn, fun pc as h => (show BT.AllP (fun pc as => ∀ a ∈ as, chkA GX 3000 175 ct_H_askIn pc a = true) ct_H_askIn.cut from trivial).at h⟩
theorem ke_H_work : chkE GX 3000 176 ct_H_work = true := by decide +kernel
theorem kk_H_work : Chk GX 3000 176 ct_H_work := ⟨ke_H_work, fun pc as h => (show BT.AllP (fun pc as => ∀ a ∈ as, chkA GX 3000 176 ct_H_work pc a = true) ct_H_work.cut from trivial).at h⟩
theorem ke_H_step : chkE GX 3000 178 ct_H_step = true := by decide +kernel
theorem kk_H_step : Chk GX 3000 178 ct_H_step := ⟨ke_H_step, fun pc as h => (show BT.AllP (fun pc as => ∀ a ∈ as, chkA GX 3000 178 ct_H_step pc a = true) ct_H_step.cut from trivial).at h⟩
theorem ke_H_tie : chkE GX 3000 180 ct_H_tie = true := by decide +kernel
theorem kk_H_tie : Chk GX 3000 180 ct_H_tie := ⟨ke_H_tie, fun pc as h => (show BT.AllP (fun pc as => ∀ a ∈ as, chkA GX 3000 180 ct_H_tie pc a = true) ct_H_tie.cut from trivial).at h⟩
theorem ke_Wo_prepare : chkE GX 3000 182 ct_Wo_prepare = true := by decide +kernel
