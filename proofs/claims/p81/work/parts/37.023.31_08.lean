theorem ka_Ju_weigh_69_0L9 : chkA GXL9 3000 137 ct_Ju_weigh 69 ca_Ju_weigh_69_0 = true := by decide +kernel
theorem ka_Ju_weigh_154_0L9 : chkA GXL9 3000 137 ct_Ju_weigh 154 ca_Ju_weigh_154_0 = true := by decide +kernel
theorem kk_Ju_weighL9 : Chk GXL9 3000 137 ct_Ju_weigh := ⟨ke_Ju_weighL9, fun pc as h => (show BT.AllP (fun pc as => ∀ a ∈ as, chkA GXL9 3000 137 ct_Ju_weigh pc a = true) ct_Ju_weigh.cut from ⟨⟨List.forall_mem_cons.mpr ⟨ka_Ju_weigh_69_0L9, fun a ha => by cases ha⟩, trivial⟩, ⟨List.forall_mem_cons.mpr ⟨ka_Ju_weigh_154_0L9, fun a ha => by cases ha⟩, trivial⟩, trivial⟩).at h⟩
theorem ke_Ju_endOfComparisonL9 : chkE GXL9 3000 138 ct_Ju_endOfComparisonL9 = true := by decide +kernel
theorem ka_Ju_endOfComparison_2_0L9 : chkA GXL9 3000 138 ct_Ju_endOfComparisonL9 2 ca_Ju_endOfComparison_2_0L9 = true := by decide +kernel
theorem kk_Ju_endOfComparisonL9 : Chk GXL9 3000 138 ct_Ju_endOfComparisonL9 := ⟨ke_Ju_endOfComparisonL9, fun pc as h => (show BT.AllP (fun pc as => ∀ a ∈ as, chkA GXL9 3000 138 ct_Ju_endOfComparisonL9 pc a = true) ct_Ju_endOfComparisonL9.cut from ⟨⟨List.forall_mem_cons.mpr ⟨ka_Ju_endOfComparison_2_0L9, fun a ha => by cases ha⟩, trivial⟩, trivial⟩).at h⟩
theorem ke_Ju_truthOfL9 : chkE GXL9 3000 139 ct_Ju_truthOfL9 = true := by decide +kernel
theorem ka_Ju_truthOf_17_0L9 : chkA GXL9 3000 139 ct_Ju_truthOfL9 17 ca_Ju_truthOf_17_0 = true := by decide +kernel
theorem ka_Ju_truthOf_33_0L9 : chkA GXL9 3000 139 ct_Ju_truthOfL9 33 ca_Ju_truthOf_33_0L9 = true := by decide +kernel
theorem ka_Ju_truthOf_33_1L9 : chkA GXL9 3000 139 ct_Ju_truthOfL9 33 ca_Ju_truthOf_33_1L9 = true := by decide +kernel
theorem ka_Ju_truthOf_33_2L9 : chkA GXL9 3000 139 ct_Ju_truthOfL9 33 ca_Ju_truthOf_33_2L9 = true := by decide +kernel
theorem ka_Ju_truthOf_33_3L9 : chkA GXL9 3000 139 ct_Ju_truthOfL9 33 ca_Ju_truthOf_33_3L9 = true := by decide +kernel
theorem ka_Ju_truthOf_33_4L9 : chkA GXL9 3000 139 ct_Ju_truthOfL9 33 ca_Ju_truthOf_33_4L9 = true := by decide +kernel
theorem ka_Ju_truthOf_33_5L9 : chkA GXL9 3000 139 ct_Ju_truthOfL9 33 ca_Ju_truthOf_33_5L9 = true := by decide +kernel
theorem ka_Ju_truthOf_33_6L9 : chkA GXL9 3000 139 ct_Ju_truthOfL9 33 ca_Ju_truthOf_33_6L9 = true := by decide +kernel
theorem ka_Ju_truthOf_33_7L9 : chkA GXL9 3000 139 ct_Ju_truthOfL9 33 ca_Ju_truthOf_33_7L9 = true := by decide +kernel
theorem ka_Ju_truthOf_33_8L9 : chkA GXL9 3000 139 ct_Ju_truthOfL9 33 ca_Ju_truthOf_33_8L9 = true := by decide +kernel
theorem ka_Ju_truthOf_33_9L9 : chkA GXL9 3000 139 ct_Ju_truthOfL9 33 ca_Ju_truthOf_33_9L9 = true := by decide +kernel
theorem ka_Ju_truthOf_33_10L9 : chkA GXL9 3000 139 ct_Ju_truthOfL9 33 ca_Ju_truthOf_33_10L9 = true := by decide +kernel
theorem ka_Ju_truthOf_33_11L9 : chkA GXL9 3000 139 ct_Ju_truthOfL9 33 ca_Ju_truthOf_33_11L9 = true := by decide +kernel
theorem ka_Ju_truthOf_33_12L9 : chkA GXL9 3000 139 ct_Ju_truthOfL9 33 ca_Ju_truthOf_33_12L9 = true := by decide +kernel
theorem ka_Ju_truthOf_33_13L9 : chkA GXL9 3000 139 ct_Ju_truthOfL9 33 ca_Ju_truthOf_33_13L9 = true := by decide +kernel
theorem ka_Ju_truthOf_33_14L9 : chkA GXL9 3000 139 ct_Ju_truthOfL9 33 ca_Ju_truthOf_33_14L9 = true := by decide +kernel
theorem ka_Ju_truthOf_33_15L9 : chkA GXL9 3000 139 ct_Ju_truthOfL9 33 ca_Ju_truthOf_33_15L9 = true := by decide +kernel
theorem ka_Ju_truthOf_33_16L9 : chkA GXL9 3000 139 ct_Ju_truthOfL9 33 ca_Ju_truthOf_33_16L9 = true := by decide +kernel
theorem ka_Ju_truthOf_33_17L9 : chkA GXL9 3000 139 ct_Ju_truthOfL9 33 ca_Ju_truthOf_33_17L9 = true := by decide +kernel
theorem ka_Ju_truthOf_33_18L9 : chkA GXL9 3000 139 ct_Ju_truthOfL9 33 ca_Ju_truthOf_33_18L9 = true := by decide +kernel
theorem ka_Ju_truthOf_33_19L9 : chkA GXL9 3000 139 ct_Ju_truthOfL9 33 ca_Ju_truthOf_33_19L9 = true := by decide +kernel
theorem ka_Ju_truthOf_33_20L9 : chkA GXL9 3000 139 ct_Ju_truthOfL9 33 ca_Ju_truthOf_33_20L9 = true := by decide +kernel
theorem ka_Ju_truthOf_33_21L9 : chkA GXL9 3000 139 ct_Ju_truthOfL9 33 ca_Ju_truthOf_33_21L9 = true := by decide +kernel
theorem ka_Ju_truthOf_33_22L9 : chkA GXL9 3000 139 ct_Ju_truthOfL9 33 ca_Ju_truthOf_33_22L9 = true := by decide +kernel
theorem ka_Ju_truthOf_33_23L9 : chkA GXL9 3000 139 ct_Ju_truthOfL9 33 ca_Ju_truthOf_33_23L9 = true := by decide +kernel
theorem ka_Ju_truthOf_33_24L9 : chkA GXL9 3000 139 ct_Ju_truthOfL9 33 ca_Ju_truthOf_33_24L9 = true := by decide +kernel
theorem ka_Ju_truthOf_33_25L9 : chkA GXL9 3000 139 ct_Ju_truthOfL9 33 ca_Ju_truthOf_33_25L9 = true := by decide +kernel
theorem ka_Ju_truthOf_132_0L9 : chkA GXL9 3000 139 ct_Ju_truthOfL9 132 ca_Ju_truthOf_132_0 = true := by decide +kernel
theorem kk_Ju_truthOfL9 : Chk GXL9 3000 139 ct_Ju_truthOfL9 := ⟨ke_Ju_truthOfL9, fun pc as h => (show BT.AllP (fun pc as => ∀ a ∈ as, chkA GXL9 3000 139 ct_Ju_truthOfL9 pc a = true) ct_Ju_truthOfL9.cut from ⟨⟨List.forall_mem_cons.mpr ⟨ka_Ju_truthOf_17_0L9, fun a ha => by cases ha⟩, trivial⟩, ⟨List.forall_mem_cons.mpr ⟨ka_Ju_truthOf_33_0L9, List.forall_mem_cons.mpr ⟨ka_Ju_truthOf_33_1L9, List.forall_mem_cons.mpr ⟨ka_Ju_truthOf_33_2L9, List.forall_mem_cons.mpr ⟨ka_Ju_truthOf_33_3L9, List.forall_mem_cons.mpr ⟨ka_Ju_truthOf_33_4L9, List.forall_mem_cons.mpr ⟨ka_Ju_truthOf_33_5L9, List.forall_mem_cons.mpr ⟨ka_Ju_truthOf_33_6L9, List.forall_mem_cons.mpr ⟨ka_Ju_truthOf_33_7L9, List.forall_mem_cons.mpr ⟨ka_Ju_truthOf_33_8L9, List.forall_mem_cons.mpr ⟨ka_Ju_truthOf_33_9L9, List.forall_mem_cons.mpr ⟨ka_Ju_truthOf_33_10L9, List.forall_mem_cons.mpr ⟨ka_Ju_truthOf_33_11L9, List.forall_mem_cons.mpr ⟨ka_Ju_truthOf_33_12L9, List.forall_mem_cons.mpr ⟨ka_Ju_truthOf_33_13L9, List.forall_mem_cons.mpr ⟨ka_Ju_truthOf_33_14L9, List.forall_mem_cons.mpr ⟨ka_Ju_truthOf_33_15L9, List.forall_mem_cons.mpr ⟨ka_Ju_truthOf_33_16L9, List.forall_mem_cons.mpr ⟨ka_Ju_truthOf_33_17L9, List.forall_mem_cons.mpr ⟨ka_Ju_truthOf_33_18L9, List.forall_mem_cons.mpr ⟨ka_Ju_truthOf_33_19L9, List.forall_mem_cons.mpr ⟨ka_Ju_truthOf_33_20L9, List.forall_mem_cons.mpr ⟨ka_Ju_truthOf_33_21L9, List.forall_mem_cons.mpr ⟨ka_Ju_truthOf_33_22L9, List.forall_mem_cons.mpr ⟨ka_Ju_truthOf_33_23L9, List.forall_mem_cons.mpr ⟨ka_Ju_truthOf_33_24L9, List.forall_mem_cons.mpr ⟨ka_Ju_truthOf_33_25L9, fun a ha => by cases ha⟩⟩⟩⟩⟩⟩⟩⟩⟩⟩⟩⟩⟩⟩⟩⟩⟩⟩⟩⟩⟩⟩⟩⟩⟩⟩, trivial⟩, ⟨List.forall_mem_cons.mpr ⟨ka_Ju_truthOf_132_0L9, fun a ha => by cases ha⟩, trivial⟩, trivial⟩).at h⟩
theorem ke_Ju_spokenL9 : chkE GXL9 3000 140 ct_Ju_spokenL9 = true := by decide +kernel
theorem kk_Ju_spokenL9 : Chk GXL9 3000 140 ct_Ju_spokenL9 := ⟨ke_Ju_spokenL9, fun pc as h => (show BT.AllP (fun pc as => ∀ a ∈ as, chkA GXL9 3000 140 ct_Ju_spokenL9 pc a = true) ct_Ju_spokenL9.cut from trivial).at h⟩
theorem ke_Ju_weightOfL9 : chkE GXL9 3000 141 ct_Ju_weightOfL9 = true := by decide +kernel
theorem kk_Ju_weightOfL9 : Chk GXL9 3000 141 ct_Ju_weightOfL9 := ⟨ke_Ju_weightOfL9, fun pc as h => (show BT.AllP (fun pc as => ∀ a ∈ as, chkA GXL9 3000 141 ct_Ju_weightOfL9 pc a = true) ct_Ju_weightOfL9.cut from trivial).at h⟩
theorem ke_Ju_answerL9 : chkE GXL9 3000 142 ct_Ju_answer = true := by decide +kernel
theorem ka_Ju_answer_64_0L9 : chkA GXL9 3000 142 ct_Ju_answer 64 ca_Ju_answer_64_0 = true := by decide +kernel
theorem ka_Ju_answer_64_1L9 : chkA GXL9 3000 142 ct_Ju_answer 64 ca_Ju_answer_64_1 = true := by decide +kernel
theorem kk_Ju_answerL9 : Chk GXL9 3000 142 ct_Ju_answer := ⟨ke_Ju_answerL9, fun pc as h => (show BT.AllP (fun pc as => ∀ a ∈ as, chkA GXL9 3000 142 ct_Ju_answer pc a = true) ct_Ju_answer.cut from ⟨⟨List.forall_mem_cons.mpr ⟨ka_Ju_answer_64_0L9, List.forall_mem_cons.mpr ⟨ka_Ju_answer_64_1L9, fun a ha => by cases ha⟩⟩, trivial⟩, trivial⟩).at h⟩
theorem ke_Ju_answerKeptL9 : chkE GXL9 3000 143 ct_Ju_answerKeptL9 = true := by decide +kernel
theorem kk_Ju_answerKeptL9 : Chk GXL9 3000 143 ct_Ju_answerKeptL9 := ⟨ke_Ju_answerKeptL9, fun pc as h => (show BT.AllP (fun pc as => ∀ a ∈ as, chkA GXL9 3000 143 ct_Ju_answerKeptL9 pc a = true) ct_Ju_answerKeptL9.cut from trivial).at h⟩
theorem ke_H_askL9 : chkE GXL9 3000 144 ct_H_askL9 = true := by decide +kernel
theorem kk_H_askL9 : Chk GXL9 3000 144 ct_H_askL9 := ⟨ke_H_askL9, fun pc as h => (show BT.AllP (fun pc as => ∀ a ∈ as, chkA GXL9 3000 144 ct_H_askL9 pc a = true) ct_H_askL9.cut from trivial).at h⟩
theorem ke_H_askedL9 : chkE GXL9 3000 145 ct_H_askedL9 = true := by decide +kernel
theorem kk_H_askedL9 : Chk GXL9 3000 145 ct_H_askedL9 := ⟨ke_H_askedL9, fun pc as h => (show BT.AllP (fun pc as => ∀ a ∈ as, chkA GXL9 3000 145 ct_H_askedL9 pc a = true) ct_H_askedL9.cut from trivial).at h⟩
theorem ke_H_madeL9 : chkE GXL9 3000 146 ct_H_made = true := by decide +kernel
theorem kk_H_madeL9 : Chk GXL9 3000 146 ct_H_made := ⟨ke_H_madeL9, fun pc as h => (show BT.AllP (fun pc as => ∀ a ∈ as, chkA GXL9 3000 146 ct_H_made pc a = true) ct_H_made.cut from trivial).at h⟩
theorem ke_Ju_thingAllowedL9 : chkE GXL9 3000 147 ct_Ju_thingAllowedL9 = true := by decide +kernel
theorem ka_Ju_thingAllowed_6_0L9 : chkA GXL9 3000 147 ct_Ju_thingAllowedL9 6 ca_Ju_thingAllowed_6_0 = true := by decide +kernel
theorem kk_Ju_thingAllowedL9 : Chk GXL9 3000 147 ct_Ju_thingAllowedL9 := ⟨ke_Ju_thingAllowedL9, fun pc as h => (show BT.AllP (fun pc as => ∀ a ∈ as, chkA GXL9 3000 147 ct_Ju_thingAllowedL9 pc a = true) ct_Ju_thingAllowedL9.cut from ⟨⟨List.forall_mem_cons.mpr ⟨ka_Ju_thingAllowed_6_0L9, fun a ha => by cases ha⟩, trivial⟩, trivial⟩).at h⟩
theorem ke_H_mayL9 : chkE GXL9 3000 148 ct_H_mayL9 = true := by decide +kernel
theorem kk_H_mayL9 : Chk GXL9 3000 148 ct_H_mayL9 := ⟨ke_H_mayL9, fun pc as h => (show BT.AllP (fun pc as => ∀ a ∈ as, chkA GXL9 3000 148 ct_H_mayL9 pc a = true) ct_H_mayL9.cut from trivial).at h⟩
theorem ke_Ju_personAllowedL9 : chkE GXL9 3000 149 ct_Ju_personAllowedL9 = true := by decide +kernel
theorem ka_Ju_personAllowed_7_0L9 : chkA GXL9 3000 149 ct_Ju_personAllowedL9 7 ca_Ju_personAllowed_7_0 = true := by decide +kernel
theorem kk_Ju_personAllowedL9 : Chk GXL9 3000 149 ct_Ju_personAllowedL9 := ⟨ke_Ju_personAllowedL9, fun pc as h => (show BT.AllP (fun pc as => ∀ a ∈ as, chkA GXL9 3000 149 ct_Ju_personAllowedL9 pc a = true) ct_Ju_personAllowedL9.cut from ⟨⟨List.forall_mem_cons.mpr ⟨ka_Ju_personAllowed_7_0L9, fun a ha => by cases ha⟩, trivial⟩, trivial⟩).at h⟩
theorem ke_H_whoL9 : chkE GXL9 3000 150 ct_H_whoL9 = true := by decide +kernel
theorem kk_H_whoL9 : Chk GXL9 3000 150 ct_H_whoL9 := ⟨ke_H_whoL9, fun pc as h => (show BT.AllP (fun pc as => ∀ a ∈ as, chkA GXL9 3000 150 ct_H_whoL9 pc a = true) ct_H_whoL9.cut from trivial).at h⟩
theorem ke_Ju_differencesL9 : chkE GXL9 3000 152 ct_Ju_differencesL9 = true := by decide +kernel
theorem ka_Ju_differences_65_0L9 : chkA GXL9 3000 152 ct_Ju_differencesL9 65 ca_Ju_differences_65_0 = true := by decide +kernel
theorem ka_Ju_differences_103_0L9 : chkA GXL9 3000 152 ct_Ju_differencesL9 103 ca_Ju_differences_103_0 = true := by decide +kernel
theorem ka_Ju_differences_113_0L9 : chkA GXL9 3000 152 ct_Ju_differencesL9 113 ca_Ju_differences_113_0 = true := by decide +kernel
theorem kk_Ju_differencesL9 : Chk GXL9 3000 152 ct_Ju_differencesL9 := ⟨ke_Ju_differencesL9, fun pc as h => (show BT.AllP (fun pc as => ∀ a ∈ as, chkA GXL9 3000 152 ct_Ju_differencesL9 pc a = true) ct_Ju_differencesL9.cut from ⟨⟨List.forall_mem_cons.mpr ⟨ka_Ju_differences_65_0L9, fun a ha => by cases ha⟩, trivial⟩, ⟨List.forall_mem_cons.mpr ⟨ka_Ju_differences_103_0L9, fun a ha => by cases ha⟩, trivial⟩, ⟨List.forall_mem_cons.mpr ⟨ka_Ju_differences_113_0L9, fun a ha => by cases ha⟩, trivial⟩, trivial⟩).at h⟩
theorem ke_H_compareL9 : chkE GXL9 3000 153 ct_H_compareL9 = true := by decide +kernel
theorem kk_H_compareL9 : Chk GXL9 3000 153 ct_H_compareL9 := ⟨ke_H_compareL9, fun pc as h => (show BT.AllP (fun pc as => ∀ a ∈ as, chkA GXL9 3000 153 ct_H_compareL9 pc a = true) ct_H_compareL9.cut from trivial).at h⟩
theorem ke_H_comparedL9 : chkE GXL9 3000 154 ct_H_compared = true := by decide +kernel
theorem kk_H_comparedL9 : Chk GXL9 3000 154 ct_H_compared := ⟨ke_H_comparedL9, fun pc as h => (show BT.AllP (fun pc as => ∀ a ∈ as, chkA GXL9 3000 154 ct_H_compared pc a = true) ct_H_compared.cut from trivial).at h⟩
theorem ke_Ju_decidedByL9 : chkE GXL9 3000 155 ct_Ju_decidedByL9 = true := by decide +kernel
theorem ka_Ju_decidedBy_15_0L9 : chkA GXL9 3000 155 ct_Ju_decidedByL9 15 ca_Ju_decidedBy_15_0 = true := by decide +kernel
theorem ka_Ju_decidedBy_53_0L9 : chkA GXL9 3000 155 ct_Ju_decidedByL9 53 ca_Ju_decidedBy_53_0 = true := by decide +kernel
theorem ka_Ju_decidedBy_63_0L9 : chkA GXL9 3000 155 ct_Ju_decidedByL9 63 ca_Ju_decidedBy_63_0 = true := by decide +kernel
theorem kk_Ju_decidedByL9 : Chk GXL9 3000 155 ct_Ju_decidedByL9 := ⟨ke_Ju_decidedByL9, fun pc as h => (show BT.AllP (fun pc as => ∀ a ∈ as, chkA GXL9 3000 155 ct_Ju_decidedByL9 pc a = true) ct_Ju_decidedByL9.cut from ⟨⟨List.forall_mem_cons.mpr ⟨ka_Ju_decidedBy_15_0L9, fun a ha => by cases ha⟩, trivial⟩, ⟨List.forall_mem_cons.mpr ⟨ka_Ju_decidedBy_53_0L9, fun a ha => by cases ha⟩, trivial⟩, ⟨List.forall_mem_cons.mpr ⟨ka_Ju_decidedBy_63_0L9, fun a ha => by cases ha⟩, trivial⟩, trivial⟩).at h⟩
theorem ke_H_decidesL9 : chkE GXL9 3000 156 ct_H_decidesL9 = true := by decide +kernel
theorem kk_H_decidesL9 : Chk GXL9 3000 156 ct_H_decidesL9 := ⟨ke_H_decidesL9, fun pc as h => (show BT.AllP (fun pc as => ∀ a ∈ as, chkA GXL9 3000 156 ct_H_decidesL9 pc a = true) ct_H_decidesL9.cut from trivial).at h⟩
theorem ke_H_law : chkE GXL9 3000 158 ct_H_law = true := by decide +kernel
theorem kk_H_law : Chk GXL9 3000 158 ct_H_law := ⟨ke_H_law, fun pc as h => (show BT.AllP (fun pc as => ∀ a ∈ as, chkA GXL9 3000 158 ct_H_law pc a = true) ct_H_law.cut from trivial).at h⟩
theorem ke_Ro_refusingGiver : chkE GXL9 3000 159 ct_Ro_refusingGiver = true := by decide +kernel
theorem ka_Ro_refusingGiver_19_0 : chkA GXL9 3000 159 ct_Ro_refusingGiver 19 ca_Ro_refusingGiver_19_0 = true := by decide +kernel
theorem kk_Ro_refusingGiver : Chk GXL9 3000 159 ct_Ro_refusingGiver := ⟨ke_Ro_refusingGiver, fun pc as h => (show BT.AllP (fun pc as => ∀ a ∈ as, chkA GXL9 3000 159 ct_Ro_refusingGiver pc a = true) ct_Ro_refusingGiver.cut from ⟨⟨List.forall_mem_cons.mpr ⟨ka_Ro_refusingGiver_19_0, fun a ha => by cases ha⟩, trivial⟩, trivial⟩).at h⟩
theorem ke_Ro_isBothOnL9 : chkE GXL9 3000 160 ct_Ro_isBothOnL9 = true := by decide +kernel
theorem ka_Ro_isBothOn_2_0L9 : chkA GXL9 3000 160 ct_Ro_isBothOnL9 2 ca_Ro_isBothOn_2_0L9 = true := by decide +kernel
theorem kk_Ro_isBothOnL9 : Chk GXL9 3000 160 ct_Ro_isBothOnL9 := ⟨ke_Ro_isBothOnL9, fun pc as h => (show BT.AllP (fun pc as => ∀ a ∈ as, chkA GXL9 3000 160 ct_Ro_isBothOnL9 pc a = true) ct_Ro_isBothOnL9.cut from ⟨⟨List.forall_mem_cons.mpr ⟨ka_Ro_isBothOn_2_0L9, fun a ha => by cases ha⟩, trivial⟩, trivial⟩).at h⟩
theorem ke_Ro_doesLawHoldL9 : chkE GXL9 3000 161 ct_Ro_doesLawHoldL9 = true := by decide +kernel
theorem ka_Ro_doesLawHold_42_0L9 : chkA GXL9 3000 161 ct_Ro_doesLawHoldL9 42 ca_Ro_doesLawHold_42_0L9 = true := by decide +kernel
theorem kk_Ro_doesLawHoldL9 : Chk GXL9 3000 161 ct_Ro_doesLawHoldL9 := ⟨ke_Ro_doesLawHoldL9, fun pc as h => (show BT.AllP (fun pc as => ∀ a ∈ as, chkA GXL9 3000 161 ct_Ro_doesLawHoldL9 pc a = true) ct_Ro_doesLawHoldL9.cut from ⟨⟨List.forall_mem_cons.mpr ⟨ka_Ro_doesLawHold_42_0L9, fun a ha => by cases ha⟩, trivial⟩, trivial⟩).at h⟩
theorem ke_Ro_firstNotHoldingL9 : chkE GXL9 3000 162 ct_Ro_firstNotHoldingL9 = true := by decide +kernel
