theorem ke_Re_overL9 : chkE GXL9 3000 61 ct_Re_overL9 = true := by decide +kernel
theorem ka_Re_over_135_0L9 : chkA GXL9 3000 61 ct_Re_overL9 135 ca_Re_over_135_0L9 = true := by decide +kernel
theorem kk_Re_overL9 : Chk GXL9 3000 61 ct_Re_overL9 := ⟨ke_Re_overL9, fun pc as h => (show BT.AllP (fun pc as => ∀ a ∈ as, chkA GXL9 3000 61 ct_Re_overL9 pc a = true) ct_Re_overL9.cut from ⟨⟨List.forall_mem_cons.mpr ⟨ka_Re_over_135_0L9, fun a ha => by cases ha⟩, trivial⟩, trivial⟩).at h⟩
theorem ke_Po_splitNumber : chkE GXL9 3000 62 ct_Po_splitNumberL9 = true := by decide +kernel
theorem ka_Po_splitNumber_15_0 : chkA GXL9 3000 62 ct_Po_splitNumberL9 15 ca_Po_splitNumber_15_0L9 = true := by decide +kernel
theorem ka_Po_splitNumber_15_1 : chkA GXL9 3000 62 ct_Po_splitNumberL9 15 ca_Po_splitNumber_15_1L9 = true := by decide +kernel
theorem kk_Po_splitNumber : Chk GXL9 3000 62 ct_Po_splitNumberL9 := ⟨ke_Po_splitNumber, fun pc as h => (show BT.AllP (fun pc as => ∀ a ∈ as, chkA GXL9 3000 62 ct_Po_splitNumberL9 pc a = true) ct_Po_splitNumberL9.cut from ⟨⟨List.forall_mem_cons.mpr ⟨ka_Po_splitNumber_15_0, List.forall_mem_cons.mpr ⟨ka_Po_splitNumber_15_1, fun a ha => by cases ha⟩⟩, trivial⟩, trivial⟩).at h⟩
theorem ke_Po_splitSign : chkE GXL9 3000 72 ct_Po_splitSignL9 = true := by decide +kernel
theorem kk_Po_splitSign : Chk GXL9 3000 72 ct_Po_splitSignL9 := ⟨ke_Po_splitSign, fun pc as h => (show BT.AllP (fun pc as => ∀ a ∈ as, chkA GXL9 3000 72 ct_Po_splitSignL9 pc a = true) ct_Po_splitSignL9.cut from trivial).at h⟩
theorem ke_Po_splitOff : chkE GXL9 3000 73 ct_Po_splitOffL9 = true := by decide +kernel
