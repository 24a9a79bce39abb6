theorem ka_Ju_weigh_69_0 : chkA GX 3000 137 ct_Ju_weigh 69 ca_Ju_weigh_69_0 = true := by decide +kernel
theorem ka_Ju_weigh_154_0 : chkA GX 3000 137 ct_Ju_weigh 154 ca_Ju_weigh_154_0 = true := by decide +kernel
theorem kk_Ju_weigh : Chk GX 3000 137 ct_Ju_weigh := ⟨ke_Ju_weigh, fun pc as h => (show BT.AllP (fun pc as => ∀ a ∈ as, chkA GX 3000 137 ct_Ju_weigh pc a = true) ct_Ju_weigh.cut from ⟨⟨List.forall_mem_cons.mpr ⟨ka_Ju_weigh_69_0, fun a ha => by cases ha⟩, trivial⟩, ⟨List.forall_mem_cons.mpr ⟨ka_Ju_weigh_154_0, fun a ha => by cases ha⟩, trivial⟩, trivial⟩).at h⟩
theorem ke_Ju_endOfComparison : chkE GX 3000 138 ct_Ju_endOfComparison = true := by decide +kernel
theorem ka_Ju_endOfComparison_2_0 : chkA GX 3000 138 ct_Ju_endOfComparison 2 ca_Ju_endOfComparison_2_0 = true := by decide +kernel
theorem kk_Ju_endOfComparison : Chk GX 3000 138 ct_Ju_endOfComparison := ⟨ke_Ju_endOfComparison, fun pc as h => (show BT.AllP (fun pc as => ∀ a ∈ as, chkA GX 3000 138 ct_Ju_endOfComparison pc a = true) ct_Ju_endOfComparison.cut from ⟨⟨List.forall_mem_cons.mpr ⟨ka_Ju_endOfComparison_2_0, fun a ha => by cases ha⟩, trivial⟩, trivial⟩).at h⟩
theorem ke_Ju_truthOf : chkE GX 3000 139 ct_Ju_truthOf = true := by decide +kernel
theorem ka_Ju_truthOf_17_0 : chkA GX 3000 139 ct_Ju_truthOf 17 ca_Ju_truthOf_17_0 = true := by decide +kernel
theorem ka_Ju_truthOf_33_0 : chkA GX 3000 139 ct_Ju_truthOf 33 ca_Ju_truthOf_33_0 = true := by decide +kernel
theorem ka_Ju_truthOf_33_1 : chkA GX 3000 139 ct_Ju_truthOf 33 ca_Ju_truthOf_33_1 = true := by decide +kernel
theorem ka_Ju_truthOf_33_2 : chkA GX 3000 139 ct_Ju_truthOf 33 ca_Ju_truthOf_33_2 = true := by decide +kernel
theorem ka_Ju_truthOf_33_3 : chkA GX 3000 139 ct_Ju_truthOf 33 ca_Ju_truthOf_33_3 = true := by decide +kernel
theorem ka_Ju_truthOf_33_4 : chkA GX 3000 139 ct_Ju_truthOf 33 ca_Ju_truthOf_33_4 = true := by decide +kernel
theorem ka_Ju_truthOf_33_5 : chkA GX 3000 139 ct_Ju_truthOf 33 ca_Ju_truthOf_33_5 = true := by decide +kernel
theorem ka_Ju_truthOf_33_6 : chkA GX 3000 139 ct_Ju_truthOf 33 ca_Ju_truthOf_33_6 = true := by decide +kernel
theorem ka_Ju_truthOf_33_7 : chkA GX 3000 139 ct_Ju_truthOf 33 ca_Ju_truthOf_33_7 = true := by decide +kernel
theorem ka_Ju_truthOf_33_8 : chkA GX 3000 139 ct_Ju_truthOf 33 ca_Ju_truthOf_33_8 = true := by decide +kernel
theorem ka_Ju_truthOf_33_9 : chkA GX 3000 139 ct_Ju_truthOf 33 ca_Ju_truthOf_33_9 = true := by decide +kernel
theorem ka_Ju_truthOf_33_10 : chkA GX 3000 139 ct_Ju_truthOf 33 ca_Ju_truthOf_33_10 = true := by decide +kernel
theorem ka_Ju_truthOf_33_11 : chkA GX 3000 139 ct_Ju_truthOf 33 ca_Ju_truthOf_33_11 = true := by decide +kernel
theorem ka_Ju_truthOf_33_12 : chkA GX 3000 139 ct_Ju_truthOf 33 ca_Ju_truthOf_33_12 = true := by decide +kernel
theorem ka_Ju_truthOf_33_13 : chkA GX 3000 139 ct_Ju_truthOf 33 ca_Ju_truthOf_33_13 = true := by decide +kernel
theorem ka_Ju_truthOf_33_14 : chkA GX 3000 139 ct_Ju_truthOf 33 ca_Ju_truthOf_33_14 = true := by decide +kernel
theorem ka_Ju_truthOf_33_15 : chkA GX 3000 139 ct_Ju_truthOf 33 ca_Ju_truthOf_33_15 = true := by decide +kernel
theorem ka_Ju_truthOf_33_16 : chkA GX 3000 139 ct_Ju_truthOf 33 ca_Ju_truthOf_33_16 = true := by decide +kernel
theorem ka_Ju_truthOf_33_17 : chkA GX 3000 139 ct_Ju_truthOf 33 ca_Ju_truthOf_33_17 = true := by decide +kernel
theorem ka_Ju_truthOf_33_18 : chkA GX 3000 139 ct_Ju_truthOf 33 ca_Ju_truthOf_33_18 = true := by decide +kernel
theorem ka_Ju_truthOf_33_19 : chkA GX 3000 139 ct_Ju_truthOf 33 ca_Ju_truthOf_33_19 = true := by decide +kernel
theorem ka_Ju_truthOf_33_20 : chkA GX 3000 139 ct_Ju_truthOf 33 ca_Ju_truthOf_33_20 = true := by decide +kernel
theorem ka_Ju_truthOf_33_21 : chkA GX 3000 139 ct_Ju_truthOf 33 ca_Ju_truthOf_33_21 = true := by decide +kernel
theorem ka_Ju_truthOf_33_22 : chkA GX 3000 139 ct_Ju_truthOf 33 ca_Ju_truthOf_33_22 = true := by decide +kernel
theorem ka_Ju_truthOf_33_23 : chkA GX 3000 139 ct_Ju_truthOf 33 ca_Ju_truthOf_33_23 = true := by decide +kernel
theorem ka_Ju_truthOf_33_24 : chkA GX 3000 139 ct_Ju_truthOf 33 ca_Ju_truthOf_33_24 = true := by decide +kernel
theorem ka_Ju_truthOf_33_25 : chkA GX 3000 139 ct_Ju_truthOf 33 ca_Ju_truthOf_33_25 = true := by decide +kernel
theorem ka_Ju_truthOf_132_0 : chkA GX 3000 139 ct_Ju_truthOf 132 ca_Ju_truthOf_132_0 = true := by decide +kernel
theorem kk_Ju_truthOf : Chk GX 3000 139 ct_Ju_truthOf := ⟨ke_Ju_truthOf, fun pc as h => (show BT.AllP (fun pc as => ∀ a ∈ as, chkA GX 3000 139 ct_Ju_truthOf pc a = true) ct_Ju_truthOf.cut from ⟨⟨List.forall_mem_cons.mpr ⟨ka_Ju_truthOf_17_0, fun a ha => by cases ha⟩, trivial⟩, ⟨List.forall_mem_cons.mpr ⟨ka_Ju_truthOf_33_0, List.forall_mem_cons.mpr ⟨ka_Ju_truthOf_33_1, List.forall_mem_cons.mpr ⟨ka_Ju_truthOf_33_2, List.forall_mem_cons.mpr ⟨ka_Ju_truthOf_33_3, List.forall_mem_cons.mpr ⟨ka_Ju_truthOf_33_4, List.forall_mem_cons.mpr ⟨ka_Ju_truthOf_33_5, List.forall_mem_cons.mpr ⟨ka_Ju_truthOf_33_6, List.forall_mem_cons.mpr ⟨ka_Ju_truthOf_33_7, List.forall_mem_cons.mpr ⟨ka_Ju_truthOf_33_8, List.forall_mem_cons.mpr ⟨ka_Ju_truthOf_33_9, List.forall_mem_cons.mpr ⟨ka_Ju_truthOf_33_10, List.forall_mem_cons.mpr ⟨ka_Ju_truthOf_33_11, List.forall_mem_cons.mpr ⟨ka_Ju_truthOf_33_12, List.forall_mem_cons.mpr ⟨ka_Ju_truthOf_33_13, List.forall_mem_cons.mpr ⟨ka_Ju_truthOf_33_14, List.forall_mem_cons.mpr ⟨ka_Ju_truthOf_33_15, List.forall_mem_cons.mpr ⟨ka_Ju_truthOf_33_16, List.forall_mem_cons.mpr ⟨ka_Ju_truthOf_33_17, List.forall_mem_cons.mpr ⟨ka_Ju_truthOf_33_18, List.forall_mem_cons.mpr ⟨ka_Ju_truthOf_33_19, List.forall_mem_cons.mpr ⟨ka_Ju_truthOf_33_20, List.forall_mem_cons.mpr ⟨ka_Ju_truthOf_33_21, List.forall_mem_cons.mpr ⟨ka_Ju_truthOf_33_22, List.forall_mem_cons.mpr ⟨ka_Ju_truthOf_33_23, List.forall_mem_cons.mpr ⟨ka_Ju_truthOf_33_24, List.forall_mem_cons.mpr ⟨ka_Ju_truthOf_33_25, fun a ha => by cases ha⟩⟩⟩⟩⟩⟩⟩⟩⟩⟩⟩⟩⟩⟩⟩⟩⟩⟩⟩⟩⟩⟩⟩⟩⟩⟩, trivial⟩, ⟨List.forall_mem_cons.mpr ⟨ka_Ju_truthOf_132_0, fun a ha => by cases ha⟩, trivial⟩, trivial⟩).at h⟩
theorem ke_Ju_spoken : chkE GX 3000 140 ct_Ju_spoken = true := by decide +kernel
theorem kk_Ju_spoken : Chk GX 3000 140 ct_Ju_spoken := ⟨ke_Ju_spoken, fun pc as h => (show BT.AllP (fun pc as => ∀ a ∈ as, chkA GX 3000 140 ct_Ju_spoken pc a = true) ct_Ju_spoken.cut from trivial).at h⟩
theorem ke_Ju_weightOf : chkE GX 3000 141 ct_Ju_weightOf = true := by decide +kernel
theorem kk_Ju_weightOf : Chk GX 3000 141 ct_Ju_weightOf := ⟨ke_Ju_weightOf, fun pc as h => (show BT.AllP (fun pc as => ∀ a ∈ as, chkA GX 3000 141 ct_Ju_weightOf pc a = true) ct_Ju_weightOf.cut from trivial).at h⟩
theorem ke_Ju_answer : chkE GX 3000 142 ct_Ju_answer = true := by decide +kernel
theorem ka_Ju_answer_64_0 : chkA GX 3000 142 ct_Ju_answer 64 ca_Ju_answer_64_0 = true := by decide +kernel
theorem ka_Ju_answer_64_1 : chkA GX 3000 142 ct_Ju_answer 64 ca_Ju_answer_64_1 = true := by decide +kernel
theorem kk_Ju_answer : Chk GX 3000 142 ct_Ju_answer := ⟨ke_Ju_answer, fun pc as h => (show BT.AllP (fun pc as => ∀ a ∈ as, chkA GX 3000 142 ct_Ju_answer pc a = true) ct_Ju_answer.cut from ⟨⟨List.forall_mem_cons.mpr ⟨ka_Ju_answer_64_0, List.forall_mem_cons.mpr ⟨ka_Ju_answer_64_1, fun a ha => by cases ha⟩⟩, trivial⟩, trivial⟩).at h⟩
theorem ke_Ju_answerKept : chkE GX 3000 143 ct_Ju_answerKept = true := by decide +kernel
theorem kk_Ju_answerKept : Chk GX 3000 143 ct_Ju_answerKept := ⟨ke_Ju_answerKept, fun pc as h => (show BT.AllP (fun pc as => ∀ a ∈ as, chkA GX 3000 143 ct_Ju_answerKept pc a = true) ct_Ju_answerKept.cut from trivial).at h⟩
theorem ke_H_ask : chkE GX 3000 144 ct_H_ask = true := by decide +kernel
theorem kk_H_ask : Chk GX 3000 144 ct_H_ask := ⟨ke_H_ask, fun pc as h => (show BT.AllP (fun pc as => ∀ a ∈ as, chkA GX 3000 144 ct_H_ask pc a = true) ct_H_ask.cut from trivial).at h⟩
theorem ke_H_asked : chkE GX 3000 145 ct_H_asked = true := by decide +kernel
theorem kk_H_asked : Chk GX 3000 145 ct_H_asked := ⟨ke_H_asked, fun pc as h => (show BT.AllP (fun pc as => ∀ a ∈ as, chkA GX 3000 145 ct_H_asked pc a = true) ct_H_asked.cut from trivial).at h⟩
theorem ke_H_made : chkE GX 3000 146 ct_H_made = true := by decide +kernel
theorem kk_H_made : Chk GX 3000 146 ct_H_made := ⟨ke_H_made, fun pc as h => (show BT.AllP (fun pc as => ∀ a ∈ as, chkA GX 3000 146 ct_H_made pc a = true) ct_H_made.cut from trivial).at h⟩
theorem ke_Ju_thingAllowed : chkE GX 3000 147 ct_Ju_thingAllowed = true := by decide +kernel
theorem ka_Ju_thingAllowed_6_0 : chkA GX 3000 147 ct_Ju_thingAllowed 6 ca_Ju_thingAllowed_6_0 = true := by decide +kernel
theorem kk_Ju_thingAllowed : Chk GX 3000 147 ct_Ju_thingAllowed := ⟨ke_Ju_thingAllowed, fun pc as h => (show BT.AllP (fun pc as => ∀ a ∈ as, chkA GX 3000 147 ct_Ju_thingAllowed pc a = true) ct_Ju_thingAllowed.cut from ⟨⟨List.forall_mem_cons.mpr ⟨ka_Ju_thingAllowed_6_0, fun a ha => by cases ha⟩, trivial⟩, trivial⟩).at h⟩
theorem ke_H_may : chkE GX 3000 148 ct_H_may = true := by decide +kernel
theorem kk_H_may : Chk GX 3000 148 ct_H_may := ⟨ke_H_may, fun pc as h => (show BT.AllP (fun pc as => ∀ a ∈ as, chkA GX 3000 148 ct_H_may pc a = true) ct_H_may.cut from trivial).at h⟩
theorem ke_Ju_personAllowed : chkE GX 3000 149 ct_Ju_personAllowed = true := by decide +kernel
theorem ka_Ju_personAllowed_7_0 : chkA GX 3000 149 ct_Ju_personAllowed 7 ca_Ju_personAllowed_7_0 = true := by decide +kernel
theorem kk_Ju_personAllowed : Chk GX 3000 149 ct_Ju_personAllowed := ⟨ke_Ju_personAllowed, fun pc as h => (show BT.AllP (fun pc as => ∀ a ∈ as, chkA GX 3000 149 ct_Ju_personAllowed pc a = true) ct_Ju_personAllowed.cut from ⟨⟨List.forall_mem_cons.mpr ⟨ka_Ju_personAllowed_7_0, fun a ha => by cases ha⟩, trivial⟩, trivial⟩).at h⟩
theorem ke_H_who : chkE GX 3000 150 ct_H_who = true := by decide +kernel
theorem kk_H_who : Chk GX 3000 150 ct_H_who := ⟨ke_H_who, fun pc as h => (show BT.AllP (fun pc as => ∀ a ∈ as, chkA GX 3000 150 ct_H_who pc a = true) ct_H_who.cut from trivial).at h⟩
theorem ke_Ju_differences : chkE GX 3000 152 ct_Ju_differences = true := by decide +kernel
theorem ka_Ju_differences_65_0 : chkA GX 3000 152 ct_Ju_differences 65 ca_Ju_differences_65_0 = true := by decide +kernel
theorem ka_Ju_differences_103_0 : chkA GX 3000 152 ct_Ju_differences 103 ca_Ju_differences_103_0 = true := by decide +kernel
theorem ka_Ju_differences_113_0 : chkA GX 3000 152 ct_Ju_differences 113 ca_Ju_differences_113_0 = true := by decide +kernel
theorem kk_Ju_differences : Chk GX 3000 152 ct_Ju_differences := ⟨ke_Ju_differences, fun pc as h => (show BT.AllP (fun pc as => ∀ a ∈ as, chkA GX 3000 152 ct_Ju_differences pc a = true) ct_Ju_differences.cut from ⟨⟨List.forall_mem_cons.mpr ⟨ka_Ju_differences_65_0, fun a ha => by cases ha⟩, trivial⟩, ⟨List.forall_mem_cons.mpr ⟨ka_Ju_differences_103_0, fun a ha => by cases ha⟩, trivial⟩, ⟨List.forall_mem_cons.mpr ⟨ka_Ju_differences_113_0, fun a ha => by cases ha⟩, trivial⟩, trivial⟩).at h⟩
theorem ke_H_compare : chkE GX 3000 153 ct_H_compare = true := by decide +kernel
theorem kk_H_compare : Chk GX 3000 153 ct_H_compare := ⟨ke_H_compare, fun pc as h => (show BT.AllP (fun pc as => ∀ a ∈ as, chkA GX 3000 153 ct_H_compare pc a = true) ct_H_compare.cut from trivial).at h⟩
theorem ke_H_compared : chkE GX 3000 154 ct_H_compared = true := by decide +kernel
theorem kk_H_compared : Chk GX 3000 154 ct_H_compared := ⟨ke_H_compared, fun pc as h => (show BT.AllP (fun pc as => ∀ a ∈ as, chkA GX 3000 154 ct_H_compared pc a = true) ct_H_compared.cut from trivial).at h⟩
theorem ke_Ju_decidedBy : chkE GX 3000 155 ct_Ju_decidedBy = true := by decide +kernel
theorem ka_Ju_decidedBy_15_0 : chkA GX 3000 155 ct_Ju_decidedBy 15 ca_Ju_decidedBy_15_0 = true := by decide +kernel
theorem ka_Ju_decidedBy_53_0 : chkA GX 3000 155 ct_Ju_decidedBy 53 ca_Ju_decidedBy_53_0 = true := by decide +kernel
theorem ka_Ju_decidedBy_63_0 : chkA GX 3000 155 ct_Ju_decidedBy 63 ca_Ju_decidedBy_63_0 = true := by decide +kernel
theorem kk_Ju_decidedBy : Chk GX 3000 155 ct_Ju_decidedBy := ⟨ke_Ju_decidedBy, fun pc as h => (show BT.AllP (fun pc as => ∀ a ∈ as, chkA GX 3000 155 ct_Ju_decidedBy pc a = true) ct_Ju_decidedBy.cut from ⟨⟨List.forall_mem_cons.mpr ⟨ka_Ju_decidedBy_15_0, fun a ha => by cases ha⟩, trivial⟩, ⟨List.forall_mem_cons.mpr ⟨ka_Ju_decidedBy_53_0, fun a ha => by cases ha⟩, trivial⟩, ⟨List.forall_mem_cons.mpr ⟨ka_Ju_decidedBy_63_0, fun a ha => by cases ha⟩, trivial⟩, trivial⟩).at h⟩
theorem ke_H_decides : chkE GX 3000 156 ct_H_decides = true := by decide +kernel
theorem kk_H_decides : Chk GX 3000 156 ct_H_decides := ⟨ke_H_decides, fun pc as h => (show BT.AllP (fun pc as => ∀ a ∈ as, chkA GX 3000 156 ct_H_decides pc a = true) ct_H_decides.cut from trivial).at h⟩
theorem ke_H_law : chkE GX 3000 158 ct_H_law = true := by decide +kernel
theorem kk_H_law : Chk GX 3000 158 ct_H_law := ⟨ke_H_law, fun pc as h => (show BT.AllP (fun pc as => ∀ a ∈ as, chkA GX 3000 158 ct_H_law pc a = true) ct_H_law.cut from trivial).at h⟩
theorem ke_Ro_refusingGiver : chkE GX 3000 159 ct_Ro_refusingGiver = true := by decide +kernel
theorem ka_Ro_refusingGiver_19_0 : chkA GX 3000 159 ct_Ro_refusingGiver 19 ca_Ro_refusingGiver_19_0 = true := by decide +kernel
theorem kk_Ro_refusingGiver : Chk GX 3000 159 ct_Ro_refusingGiver := ⟨ke_Ro_refusingGiver, fun pc as h => (show BT.AllP (fun pc as => ∀ a ∈ as, chkA GX 3000 159 ct_Ro_refusingGiver pc a = true) ct_Ro_refusingGiver.cut from ⟨⟨List.forall_mem_cons.mpr ⟨ka_Ro_refusingGiver_19_0, fun a ha => by cases ha⟩, trivial⟩, trivial⟩).at h⟩
theorem ke_Ro_isBothOn : chkE GX 3000 160 ct_Ro_isBothOn = true := by decide +kernel
theorem ka_Ro_isBothOn_2_0 : chkA GX 3000 160 ct_Ro_isBothOn 2 ca_Ro_isBothOn_2_0 = true := by decide +kernel
theorem kk_Ro_isBothOn : Chk GX 3000 160 ct_Ro_isBothOn := ⟨ke_Ro_isBothOn, fun pc as h => (show BT.AllP (fun pc as => ∀ a ∈ as, chkA GX 3000 160 ct_Ro_isBothOn pc a = true) ct_Ro_isBothOn.cut from ⟨⟨List.forall_mem_cons.mpr ⟨ka_Ro_isBothOn_2_0, fun a ha => by cases ha⟩, trivial⟩, trivial⟩).at h⟩
theorem ke_Ro_doesLawHold : chkE GX 3000 161 ct_Ro_doesLawHold = true := by decide +kernel
theorem ka_Ro_doesLawHold_42_0 : chkA GX 3000 161 ct_Ro_doesLawHold 42 ca_Ro_doesLawHold_42_0 = true := by decide +kernel
theorem kk_Ro_doesLawHold : Chk GX 3000 161 ct_Ro_doesLawHold := ⟨ke_Ro_doesLawHold, fun pc as h => (show BT.AllP (fun pc as => ∀ a ∈ as, chkA GX 3000 161 ct_Ro_doesLawHold pc a = true) ct_Ro_doesLawHold.cut from ⟨⟨List.forall_mem_cons.mpr ⟨ka_Ro_doesLawHold_42_0, fun a ha => by cases ha⟩, trivial⟩, trivial⟩).at h⟩
theorem ke_Ro_firstNotHolding : chkE GX 3000 162 ct_Ro_firstNotHolding = true := by decide +kernel
