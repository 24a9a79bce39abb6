theorem ke_Ju_calculate : chkE GX 3000 131 ct_Ju_calculate = true := by decide +kernel
theorem kk_Ju_calculate : Chk GX 3000 131 ct_Ju_calculate := ⟨ke_Ju_calculate, fun pc as h => (show BT.AllP (fun pc as => ∀ a ∈ as, chkA GX 3000 131 ct_Ju_calculate pc a = true) ct_Ju_calculate.cut from trivial).at h⟩
theorem ke_Wh_hasMark : chkE GX 3000 132 ct_Wh_hasMark = true := by decide +kernel
theorem ka_Wh_hasMark_3_0 : chkA GX 3000 132 ct_Wh_hasMark 3 ca_Wh_hasMark_3_0 = true := by decide +kernel
theorem kk_Wh_hasMark : Chk GX 3000 132 ct_Wh_hasMark := ⟨ke_Wh_hasMark, fun pc as h => (show BT.AllP (fun pc as => ∀ a ∈ as, chkA GX 3000 132 ct_Wh_hasMark pc a = true) ct_Wh_hasMark.cut from ⟨⟨List.forall_mem_cons.mpr ⟨ka_Wh_hasMark_3_0, fun a ha => by cases ha⟩, trivial⟩, trivial⟩).at h⟩
theorem ke_Ju_weigh : chkE GX 3000 137 ct_Ju_weigh = true := by decide +kernel
theorem ka_Ju_weigh_69_0 : chkA GX 3000 137 ct_Ju_weigh 69 ca_Ju_weigh_69_0 = true := by decide +kernel
theorem ka_Ju_weigh_154_0 : chkA GX 3000 137 ct_Ju_weigh 154 ca_Ju_weigh_154_0 = true := by decide +kernel
theorem kk_Ju_weigh : Chk GX 3000 137 ct_Ju_weigh := ⟨ke_Ju_weigh, fun pc as h => (show BT.AllP (fun pc as => ∀ a ∈ as, chkA GX 3000 137 ct_Ju_weigh pc a = true) ct_Ju_weigh.cut from ⟨⟨List.forall_mem_cons.mpr ⟨ka_Ju_weigh_69_0, fun a ha => by cases ha⟩, trivial⟩, ⟨List.forall_mem_cons.mpr ⟨ka_Ju_weigh_154_0, fun a ha => by cases ha⟩, trivial⟩, trivial⟩).at h⟩
theorem ke_Ju_endOfComparison : chkE GX 3000 138 ct_Ju_endOfComparison = true := by decide +kernel
theorem ka_Ju_endOfComparison_2_0 : chkA GX 3000 138 ct_Ju_endOfComparison 2 ca_Ju_endOfComparison_2_0 = true := by decide +kernel
theorem kk_Ju_endOfComparison : Chk GX 3000 138 ct_Ju_endOfComparison := ⟨ke_Ju_endOfComparison, fun pc as h => (show BT.AllP (fun pc as => ∀ a ∈ as, chkA GX 3000 138 ct_Ju_endOfComparison pc a = true) ct_Ju_endOfComparison.cut from ⟨⟨List.forall_mem_cons.mpr ⟨ka_Ju_endOfComparison_2_0, fun a ha => by cases ha⟩, trivial⟩, trivial⟩).at h⟩
theorem ke_Ju_truthOf : chkE GX 3000 139 ct_Ju_truthOf = true := by decide +kernel
theorem ka_Ju_truthOf_17_0 : chkA GX 3000 139 ct_Ju_truthOf 17 ca_Ju_truthOf_17_0 = true := by decide +kernel
theorem ka_Ju_truthOf_33_0 : chkA GX 3000 139 ct_Ju_truthOf 33 ca_Ju_truthOf_33_0 = true := by decide +kernel
theorem ka_Ju_truthOf_33_1 : chkA GX 3000 139 ct_Ju_truthOf 33 ca_Ju_truthOf_33_1 = true := by decide +kernel
theorem ka_Ju_truthOf_33_2 : chkA GX 3000 139 ct_Ju_truthOf 33 ca_Ju_truthOf_33_2 = true := by decide +kernel
theorem ka_Ju_truthOf_33_3 : chkA GX 3000 139 ct_Ju_truthOf 33 ca_Ju_truthOf_33_3 = true := by decide +kernel
theorem ka_Ju_truthOf_33_4 : chkA GX 3000 139 ct_Ju_truthOf 33 ca_Ju_truthOf_33_4 = true := by decide +kernel
theorem ka_Ju_truthOf_33_5 : chkA GX 3000 139 ct_Ju_truthOf 33 ca_Ju_truthOf_33_5 = true := by decide +kernel
theorem ka_Ju_truthOf_33_6 : chkA GX 3000 139 ct_Ju_truthOf 33 ca_Ju_truthOf_33_6 = true := by decide +kernel
theorem ka_Ju_truthOf_33_7 : chkA GX 3000 139 ct_Ju_truthOf 33 ca_Ju_truthOf_33_7 = true := by decide +kernel
theorem ka_Ju_truthOf_33_8 : chkA GX 3000 139 ct_Ju_truthOf 33 ca_Ju_truthOf_33_8 = true := by decide +kernel
theorem ka_Ju_truthOf_33_9 : chkA GX 3000 139 ct_Ju_truthOf 33 ca_Ju_truthOf_33_9 = true := by decide +kernel
theorem ka_Ju_truthOf_33_10 : chkA GX 3000 139 ct_Ju_truthOf 33 ca_Ju_truthOf_33_10 = true := by decide +kernel
theorem ka_Ju_truthOf_33_11 : chkA GX 3000 139 ct_Ju_truthOf 33 ca_Ju_truthOf_33_11 = true := by decide +kernel
theorem ka_Ju_truthOf_33_12 : chkA GX 3000 139 ct_Ju_truthOf 33 ca_Ju_truthOf_33_12 = true := by decide +kernel
theorem ka_Ju_truthOf_33_13 : chkA GX 3000 139 ct_Ju_truthOf 33 ca_Ju_truthOf_33_13 = true := by decide +kernel
theorem ka_Ju_truthOf_33_14 : chkA GX 3000 139 ct_Ju_truthOf 33 ca_Ju_truthOf_33_14 = true := by decide +kernel
theorem ka_Ju_truthOf_33_15 : chkA GX 3000 139 ct_Ju_truthOf 33 ca_Ju_truthOf_33_15 = true := by decide +kernel
theorem ka_Ju_truthOf_33_16 : chkA GX 3000 139 ct_Ju_truthOf 33 ca_Ju_truthOf_33_16 = true := by decide +kernel
theorem ka_Ju_truthOf_33_17 : chkA GX 3000 139 ct_Ju_truthOf 33 ca_Ju_truthOf_33_17 = true := by decide +kernel
theorem ka_Ju_truthOf_33_18 : chkA GX 3000 139 ct_Ju_truthOf 33 ca_Ju_truthOf_33_18 = true := by decide +kernel
theorem ka_Ju_truthOf_33_19 : chkA GX 3000 139 ct_Ju_truthOf 33 ca_Ju_truthOf_33_19 = true := by decide +kernel
theorem ka_Ju_truthOf_33_20 : chkA GX 3000 139 ct_Ju_truthOf 33 ca_Ju_truthOf_33_20 = true := by decide +kernel
theorem ka_Ju_truthOf_33_21 : chkA GX 3000 139 ct_Ju_truthOf 33 ca_Ju_truthOf_33_21 = true := by decide +kernel
theorem ka_Ju_truthOf_33_22 : chkA GX 3000 139 ct_Ju_truthOf 33 ca_Ju_truthOf_33_22 = true := by decide +kernel
theorem ka_Ju_truthOf_33_23 : chkA GX 3000 139 ct_Ju_truthOf 33 ca_Ju_truthOf_33_23 = true := by decide +kernel
theorem ka_Ju_truthOf_33_24 : chkA GX 3000 139 ct_Ju_truthOf 33 ca_Ju_truthOf_33_24 = true := by decide +kernel
theorem ka_Ju_truthOf_33_25 : chkA GX 3000 139 ct_Ju_truthOf 33 ca_Ju_truthOf_33_25 = true := by decide +kernel
theorem ka_Ju_truthOf_132_0 : chkA GX 3000 139 ct_Ju_truthOf 132 ca_Ju_truthOf_132_0 = true := by decide +kernel
theorem kk_Ju_truthOf : Chk GX 3000 139 ct_Ju_truthOf := ⟨ke_Ju_truthOf, fun pc as h => (show BT.AllP (fun pc as => ∀ a ∈ as, chkA GX 3000 139 ct_Ju_truthOf pc a = true) ct_Ju_truthOf.cut from ⟨⟨List.forall_mem_cons.mpr ⟨ka_Ju_truthOf_17_0, fun a ha => by cases ha⟩, trivial⟩, ⟨List.forall_mem_cons.mpr ⟨ka_Ju_truthOf_33_0, List.forall_mem_cons.mpr ⟨ka_Ju_truthOf_33_1, List.forall_mem_cons.mpr ⟨ka_Ju_truthOf_33_2, List.forall_mem_cons.mpr ⟨ka_Ju_truthOf_33_3, List.forall_mem_cons.mpr ⟨ka_Ju_truthOf_33_4, List.forall_mem_cons.mpr ⟨ka_Ju_truthOf_33_5, List.forall_mem_cons.mpr ⟨ka_Ju_truthOf_33_6, List.forall_mem_cons.mpr ⟨ka_Ju_truthOf_33_7, List.forall_mem_cons.mpr ⟨ka_Ju_truthOf_33_8, List.forall_mem_cons.mpr ⟨ka_Ju_truthOf_33_9, List.forall_mem_cons.mpr ⟨ka_Ju_truthOf_33_10, List.forall_mem_cons.mpr ⟨ka_Ju_truthOf_33_11, List.forall_mem_cons.mpr ⟨ka_Ju_truthOf_33_12, List.forall_mem_cons.mpr ⟨ka_Ju_truthOf_33_13, List.forall_mem_cons.mpr ⟨ka_Ju_truthOf_33_14, List.forall_mem_cons.mpr ⟨ka_Ju_truthOf_33_15, List.forall_mem_cons.mpr ⟨ka_Ju_truthOf_33_16, List.forall_mem_cons.mpr ⟨ka_Ju_truthOf_33_17, List.forall_mem_cons.mpr ⟨ka_Ju_truthOf_33_18, List.forall_mem_cons.mpr ⟨ka_Ju_truthOf_33_19, List.forall_mem_cons.mpr ⟨ka_Ju_truthOf_33_20, List.forall_mem_cons.mpr ⟨ka_Ju_truthOf_33_21, List.forall_mem_cons.mpr ⟨ka_Ju_truthOf_33_22, List.forall_mem_cons.mpr ⟨ka_Ju_truthOf_33_23, List.forall_mem_cons.mpr ⟨ka_Ju_truthOf_33_24, List.forall_mem_cons.mpr ⟨ka_Ju_truthOf_33_25, fun a ha => by cases ha⟩⟩⟩⟩⟩⟩⟩⟩⟩⟩⟩⟩⟩⟩⟩⟩⟩⟩⟩⟩⟩⟩⟩⟩⟩⟩, trivial⟩, ⟨List.forall_mem_cons.mpr ⟨ka_Ju_truthOf_132_0, fun a ha => by cases ha⟩, trivial⟩, trivial⟩).at h⟩
theorem ke_Ju_spoken : chkE GX 3000 140 ct_Ju_spoken = true := by decide +kernel
theorem kk_Ju_spoken : Chk GX 3000 140 ct_Ju_spoken := ⟨ke_Ju_spoken, fun pc as h => (show BT.AllP (fun pc as => ∀ a ∈ as, chkA GX 3000 140 ct_Ju_spoken pc a = true) ct_Ju_spoken.cut from trivial).at h⟩
theorem ke_Ju_weightOf : chkE GX 3000 141 ct_Ju_weightOf = true := by decide +kernel
theorem kk_Ju_weightOf : Chk GX 3000 141 ct_Ju_weightOf := ⟨ke_Ju_weightOf, fun pc as h => (show BT.AllP (fun pc as => ∀ a ∈ as, chkA GX 3000 141 ct_Ju_weightOf pc a = true) ct_Ju_weightOf.cut from trivial).at h⟩
theorem ke_Ju_answer : chkE GX 3000 142 ct_Ju_answer = true := by decide +kernel
theorem ka_Ju_answer_64_0 : chkA GX 3000 142 ct_Ju_answer 64 ca_Ju_answer_64_0 = true := by decide +kernel
theorem ka_Ju_answer_64_1 : chkA GX 3000 142 ct_Ju_answer 64 ca_Ju_answer_64_1 = true := by decide +kernel
theorem kk_Ju_answer : Chk GX 3000 142 ct_Ju_answer := ⟨ke_Ju_answer, fun pc as h => (show BT.AllP (fun pc as => ∀ a ∈ as, chkA GX 3000 142 ct_Ju_answer pc a = true) ct_Ju_answer.cut from ⟨⟨List.forall_mem_cons.mpr ⟨ka_Ju_answer_64_0, List.forall_mem_cons.mpr ⟨ka_Ju_answer_64_1, fun a ha => by cases ha⟩⟩, trivial⟩, trivial⟩).at h⟩
theorem ke_Ju_answerKept : chkE GX 3000 143 ct_Ju_answerKept = true := by decide +kernel
theorem kk_Ju_answerKept : Chk GX 3000 143 ct_Ju_answerKept := ⟨ke_Ju_answerKept, fun pc as h => (show BT.AllP (fun pc as => ∀ a ∈ as, chkA GX 3000 143 ct_Ju_answerKept pc a = true) ct_Ju_answerKept.cut from trivial).at h⟩
