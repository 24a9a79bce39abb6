theorem ke_Po_readCondition : chkE GX 3000 102 ct_Po_readCondition = true := by decide +kernel
theorem ka_Po_readCondition_12_0 : chkA GX 3000 102 ct_Po_readCondition 12 ca_Po_readCondition_12_0 = true := by decide +kernel
theorem kk_Po_readCondition : Chk GX 3000 102 ct_Po_readCondition := ⟨ke_Po_readCondition, fun pc as h => (show BT.AllP (fun pc as => ∀ a ∈ as, chkA GX 3000 102 ct_Po_readCondition pc a = true) ct_Po_readCondition.cut from ⟨⟨List.forall_mem_cons.mpr ⟨ka_Po_readCondition_12_0, fun a ha => by cases ha⟩, trivial⟩, trivial⟩).at h⟩
