theorem ke_Ju_calculate : chkE GX 3000 131 ct_Ju_calculate = true := by decide +kernel
theorem kk_Ju_calculate : Chk GX 3000 131 ct_Ju_calculate := ⟨ke_Ju_calculate, fun pc as h => (show BT.AllP (fun pc as => ∀ a ∈ as, chkA GX 3000 131 ct_Ju_calculate pc a = true) ct_Ju_calculate.cut from trivial).at h⟩
theorem ke_Wh_hasMark : chkE GX 3000 132 ct_Wh_hasMark = true := by decide +kernel
theorem ka_Wh_hasMark_3_0 : chkA GX 3000 132 ct_Wh_hasMark 3 ca_Wh_hasMark_3_0 = true := by decide +kernel
theorem kk_Wh_hasMark : Chk GX 3000 132 ct_Wh_hasMark := ⟨ke_Wh_hasMark, fun pc as h => (show BT.AllP (fun pc as => ∀ a ∈ as, chkA GX 3000 132 ct_Wh_hasMark pc a = true) ct_Wh_hasMark.cut from ⟨⟨List.forall_mem_cons.mpr ⟨ka_Wh_hasMark_3_0, fun a ha => by cases ha⟩, trivial⟩, trivial⟩).at h⟩
theorem ke_Ju_weigh : chkE GX 3000 137 ct_Ju_weigh = true := by decide +kernel
theorem ka_Ju_weigh_69_0 : chkA GX 3000 137 ct_Ju_weigh 69 ca_Ju_weigh_69_0 = true := by decide +kernel
theorem ka_Ju_weigh_154_0 : chkA GX 3000 137 ct_Ju_weigh 154 ca_Ju_weigh_154_0 = true := by decide +kernel
theorem kk_Ju_weigh : Chk GX 3000 137 ct_Ju_weigh := ⟨ke_Ju_weigh, fun pc as h => (show BT.AllP (fun pc as => ∀ a ∈ as, chkA GX 3000 137 ct_Ju_weigh pc a = true) ct_Ju_weigh.cut from ⟨⟨List.forall_mem_cons.mpr ⟨ka_Ju_weigh_69_0, fun a ha => by cases ha⟩, trivial⟩, ⟨List.forall_mem_cons.mpr ⟨ka_Ju_weigh_154_0, fun a ha => by cases ha⟩, trivial⟩, trivial⟩).at h⟩
theorem ke_Ju_endOfComparison : chkE GX 3000 138 ct_Ju_endOfComparison = true := by decide +kernel
theorem ka_Ju_endOfComparison_2_0 : chkA GX 3000 138 ct_Ju_endOfComparison 2 ca_Ju_endOfComparison_2_0 = true := by decide +kernel
theorem kk_Ju_endOfComparison : Chk GX 3000 138 ct_Ju_endOfComparison := ⟨ke_Ju_endOfComparison, fun pc as h => (show BT.AllP (fun pc as => ∀ a ∈ as, chkA GX 3000 138 ct_Ju_endOfComparison pc a = true) ct_Ju_endOfComparison.cut from ⟨⟨List.forall_mem_cons.mpr ⟨ka_Ju_endOfComparison_2_0, fun a ha => by cases ha⟩, trivial⟩, trivial⟩).at h⟩
theorem ke_Ju_truthOf : chkE GX 3000 139 ct_Ju_truthOf = true := by decide +kernel
theorem ka_Ju_truthOf_17_0 : chkA GX 3000 139 ct_Ju_truthOf 17 ca_Ju_truthOf_17_0 = true := by decide +kernel
theorem ka_Ju_truthOf_33_0 : chkA GX 3000 139 ct_Ju_truthOf 33 ca_Ju_truthOf_33_0 = true := by decide +kernel
theorem ka_Ju_truthOf_33_1 : chkA GX 3000 139 ct_Ju_truthOf 33 ca_Ju_truthOf_33_1 = true := by decide +kernel
theorem ka_Ju_truthOf_33_2 : chkA GX 3000 139 ct_Ju_truthOf 33 ca_Ju_truthOf_33_2 = true := by decide +kernel
theorem ka_Ju_truthOf_33_3 : chkA GX 3000 139 ct_Ju_truthOf 33 ca_Ju_truthOf_33_3 = true := by decide +kernel
theorem ka_Ju_truthOf_33_4 : chkA GX 3000 139 ct_Ju_truthOf 33 ca_Ju_truthOf_33_4 = true := by decide +kernel
