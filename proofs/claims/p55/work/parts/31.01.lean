theorem ke_Re_over : chkE GX 3000 61 ct_Re_over = true := by decide +kernel
theorem ka_Re_over_135_0 : chkA GX 3000 61 ct_Re_over 135 ca_Re_over_135_0 = true := by decide +kernel
theorem kk_Re_over : Chk GX 3000 61 ct_Re_over := ⟨ke_Re_over, fun pc as h => (show BT.AllP (fun pc as => ∀ a ∈ as, chkA GX 3000 61 ct_Re_over pc a = true) ct_Re_over.cut from ⟨⟨List.forall_mem_cons.mpr ⟨ka_Re_over_135_0, fun a ha => by cases ha⟩, trivial⟩, trivial⟩).at h⟩
theorem ke_Po_splitNumber : chkE GX 3000 62 ct_Po_splitNumber = true := by decide +kernel
theorem ka_Po_splitNumber_15_0 : chkA GX 3000 62 ct_Po_splitNumber 15 ca_Po_splitNumber_15_0 = true := by decide +kernel
theorem ka_Po_splitNumber_15_1 : chkA GX 3000 62 ct_Po_splitNumber 15 ca_Po_splitNumber_15_1 = true := by decide +kernel
theorem kk_Po_splitNumber : Chk GX 3000 62 ct_Po_splitNumber := ⟨ke_Po_splitNumber, fun pc as h => (show BT.AllP (fun pc as => ∀ a ∈ as, chkA GX 3000 62 ct_Po_splitNumber pc a = true) ct_Po_splitNumber.cut from ⟨⟨List.forall_mem_cons.mpr ⟨ka_Po_splitNumber_15_0, List.forall_mem_cons.mpr ⟨ka_Po_splitNumber_15_1, fun a ha => by cases ha⟩⟩, trivial⟩, trivial⟩).at h⟩
theorem ke_Po_splitSign : chkE GX 3000 72 ct_Po_splitSign = true := by decide +kernel
theorem kk_Po_splitSign : Chk GX 3000 72 ct_Po_splitSign := ⟨ke_Po_splitSign, fun pc as h => (show BT.AllP (fun pc as => ∀ a ∈ as, chkA GX 3000 72 ct_Po_splitSign pc a = true) ct_Po_splitSign.cut from trivial).at h⟩
theorem ke_Po_splitOff : chkE GX 3000 73 ct_Po_splitOff = true := by decide +kernel
