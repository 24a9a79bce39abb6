theorem ke_Po_splitNumber : chkE GX 3000 62 ct_Po_splitNumber = true := by decide +kernel
theorem ka_Po_splitNumber_15_0 : chkA GX 3000 62 ct_Po_splitNumber 15 ca_Po_splitNumber_15_0 = true := by decide +kernel
theorem ka_Po_splitNumber_15_1 : chkA GX 3000 62 ct_Po_splitNumber 15 ca_Po_splitNumber_15_1 = true := by decide +kernel
theorem kk_Po_splitNumber : Chk GX 3000 62 ct_Po_splitNumber := ⟨ke_Po_splitNumber, fun pc as h => (show BT.AllP (fun pc as => ∀ a ∈ as, chkA GX 3000 62 ct_Po_splitNumber pc a = true) ct_Po_splitNumber.cut from ⟨⟨List.forall_mem_cons.mpr ⟨ka_Po_splitNumber_15_0, List.forall_mem_cons.mpr ⟨ka_Po_splitNumber_15_1, fun a ha => by cases ha⟩⟩, trivial⟩, trivial⟩).at h⟩
