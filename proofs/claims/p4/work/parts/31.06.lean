theorem ke_Re_rest : chkE GX 3000 130 ct_Re_rest = true := by decide +kernel
theorem ka_Re_rest_86_0 : chkA GX 3000 130 ct_Re_rest 86 ca_Re_rest_86_0 = true := by decide +kernel
theorem kk_Re_rest : Chk GX 3000 130 ct_Re_rest := ⟨ke_Re_rest, fun pc as h => (show BT.AllP (fun pc as => ∀ a ∈ as, chkA GX 3000 130 ct_Re_rest pc a = true) ct_Re_rest.cut from ⟨⟨List.forall_mem_cons.mpr ⟨ka_Re_rest_86_0, fun a ha => by cases ha⟩, trivial⟩, trivial⟩).at h⟩
theorem ke_Ju_calculate : chkE GX 3000 131 ct_Ju_calculate = true := by decide +kernel
theorem kk_Ju_calculate : Chk GX 3000 131 ct_Ju_calculate := ⟨ke_Ju_calculate, fun pc as h => (show BT.AllP (fun pc as => ∀ a ∈ as, chkA GX 3000 131 ct_Ju_calculate pc a = true) ct_Ju_calculate.cut from trivial).at h⟩
theorem ke_Wh_hasMark : chkE GX 3000 132 ct_Wh_hasMark = true := by decide +kernel
theorem ka_Wh_hasMark_3_0 : chkA GX 3000 132 ct_Wh_hasMark 3 ca_Wh_hasMark_3_0 = true := by decide +kernel
theorem kk_Wh_hasMark : Chk GX 3000 132 ct_Wh_hasMark := ⟨ke_Wh_hasMark, fun pc as h => (show BT.AllP (fun pc as => ∀ a ∈ as, chkA GX 3000 132 ct_Wh_hasMark pc a = true) ct_Wh_hasMark.cut from ⟨⟨List.forall_mem_cons.mpr ⟨ka_Wh_hasMark_3_0, fun a ha => by cases ha⟩, trivial⟩, trivial⟩).at h⟩
theorem ke_Ju_endOfComparison : chkE GX 3000 137 ct_Ju_endOfComparison = true := by decide +kernel
theorem ka_Ju_endOfComparison_2_0 : chkA GX 3000 137 ct_Ju_endOfComparison 2 ca_Ju_endOfComparison_2_0 = true := by decide +kernel
theorem kk_Ju_endOfComparison : Chk GX 3000 137 ct_Ju_endOfComparison := ⟨ke_Ju_endOfComparison, fun pc as h => (show BT.AllP (fun pc as => ∀ a ∈ as, chkA GX 3000 137 ct_Ju_endOfComparison pc a = true) ct_Ju_endOfComparison.cut from ⟨⟨List.forall_mem_cons.mpr ⟨ka_Ju_endOfComparison_2_0, fun a ha => by cases ha⟩, trivial⟩, trivial⟩).at h⟩
theorem ke_Ju_spoken : chkE GX 3000 139 ct_Ju_spoken = true := by decide +kernel
theorem kk_Ju_spoken : Chk GX 3000 139 ct_Ju_spoken := ⟨ke_Ju_spoken, fun pc as h => (show BT.AllP (fun pc as => ∀ a ∈ as, chkA GX 3000 139 ct_Ju_spoken pc a = true) ct_Ju_spoken.cut from trivial).at h⟩
theorem ke_Ju_weightOf : chkE GX 3000 140 ct_Ju_weightOf = true := by decide +kernel
theorem kk_Ju_weightOf : Chk GX 3000 140 ct_Ju_weightOf := ⟨ke_Ju_weightOf, fun pc as h => (show BT.AllP (fun pc as => ∀ a ∈ as, chkA GX 3000 140 ct_Ju_weightOf pc a = true) ct_Ju_weightOf.cut from trivial).at h⟩
theorem ke_Ju_answer : chkE GX 3000 141 ct_Ju_answer = true := by decide +kernel
theorem ka_Ju_answer_64_0 : chkA GX 3000 141 ct_Ju_answer 64 ca_Ju_answer_64_0 = true := by decide +kernel
theorem ka_Ju_answer_64_1 : chkA GX 3000 141 ct_Ju_answer 64 ca_Ju_answer_64_1 = true := by decide +kernel
theorem kk_Ju_answer : Chk GX 3000 141 ct_Ju_answer := ⟨ke_Ju_answer, fun pc as h => (show BT.AllP (fun pc as => ∀ a ∈ as, chkA GX 3000 141 ct_Ju_answer pc a = true) ct_Ju_answer.cut from ⟨⟨List.forall_mem_cons.mpr ⟨ka_Ju_answer_64_0, List.forall_mem_cons.mpr ⟨ka_Ju_answer_64_1, fun a ha => by cases ha⟩⟩, trivial⟩, trivial⟩).at h⟩
theorem ke_Ju_answerKept : chkE GX 3000 142 ct_Ju_answerKept = true := by decide +kernel
theorem kk_Ju_answerKept : Chk GX 3000 142 ct_Ju_answerKept := ⟨ke_Ju_answerKept, fun pc as h => (show BT.AllP (fun pc as => ∀ a ∈ as, chkA GX 3000 142 ct_Ju_answerKept pc a = true) ct_Ju_answerKept.cut from trivial).at h⟩
theorem ke_H_ask : chkE GX 3000 143 ct_H_ask = true := by decide +kernel
theorem kk_H_ask : Chk GX 3000 143 ct_H_ask := ⟨ke_H_ask, fun pc as h => (show BT.AllP (fun pc as => ∀ a ∈ as, chkA GX 3000 143 ct_H_ask pc a = true) ct_H_ask.cut from trivial).at h⟩
theorem ke_H_asked : chkE GX 3000 144 ct_H_asked = true := by decide +kernel
theorem kk_H_asked : Chk GX 3000 144 ct_H_asked := ⟨ke_H_asked, fun pc as h => (show BT.AllP (fun pc as => ∀ a ∈ as, chkA GX 3000 144 ct_H_asked pc a = true) ct_H_asked.cut from trivial).at h⟩
theorem ke_H_made : chkE GX 3000 145 ct_H_made = true := by decide +kernel
theorem kk_H_made : Chk GX 3000 145 ct_H_made := ⟨ke_H_made, fun pc as h => (show BT.AllP (fun pc as => ∀ a ∈ as, chkA GX 3000 145 ct_H_made pc a = true) ct_H_made.cut from trivial).at h⟩
theorem ke_Ju_thingAllowed : chkE GX 3000 146 ct_Ju_thingAllowed = true := by decide +kernel
theorem ka_Ju_thingAllowed_6_0 : chkA GX 3000 146 ct_Ju_thingAllowed 6 ca_Ju_thingAllowed_6_0 = true := by decide +kernel
theorem kk_Ju_thingAllowed : Chk GX 3000 146 ct_Ju_thingAllowed := ⟨ke_Ju_thingAllowed, fun pc as h => (show BT.AllP (fun pc as => ∀ a ∈ as, chkA GX 3000 146 ct_Ju_thingAllowed pc a = true) ct_Ju_thingAllowed.cut from ⟨⟨List.forall_mem_cons.mpr ⟨ka_Ju_thingAllowed_6_0, fun a ha => by cases ha⟩, trivial⟩, trivial⟩).at h⟩
theorem ke_H_may : chkE GX 3000 147 ct_H_may = true := by decide +kernel
theorem kk_H_may : Chk GX 3000 147 ct_H_may := ⟨ke_H_may, fun pc as h => (show BT.AllP (fun pc as => ∀ a ∈ as, chkA GX 3000 147 ct_H_may pc a = true) ct_H_may.cut from trivial).at h⟩
theorem ke_Ju_personAllowed : chkE GX 3000 148 ct_Ju_personAllowed = true := by decide +kernel
theorem ka_Ju_personAllowed_7_0 : chkA GX 3000 148 ct_Ju_personAllowed 7 ca_Ju_personAllowed_7_0 = true := by decide +kernel
theorem kk_Ju_personAllowed : Chk GX 3000 148 ct_Ju_personAllowed := ⟨ke_Ju_personAllowed, fun pc as h => (show BT.AllP (fun pc as => ∀ a ∈ as, chkA GX 3000 148 ct_Ju_personAllowed pc a = true) ct_Ju_personAllowed.cut from ⟨⟨List.forall_mem_cons.mpr ⟨ka_Ju_personAllowed_7_0, fun a ha => by cases ha⟩, trivial⟩, trivial⟩).at h⟩
