theorem ke_Po_readRule : chkE GX 3000 103 ct_Po_readRule = true := by decide +kernel
theorem ka_Po_readRule_34_0 : chkA GX 3000 103 ct_Po_readRule 34 ca_Po_readRule_34_0 = true := by decide +kernel
theorem ka_Po_readRule_76_0 : chkA GX 3000 103 ct_Po_readRule 76 ca_Po_readRule_76_0 = true := by decide +kernel
theorem kk_Po_readRule : Chk GX 3000 103 ct_Po_readRule := ⟨ke_Po_readRule, fun pc as h => (show BT.AllP (fun pc as => ∀ a ∈ as, chkA GX 3000 103 ct_Po_readRule pc a = true) ct_Po_readRule.cut from ⟨⟨List.forall_mem_cons.mpr ⟨ka_Po_readRule_34_0, fun a ha => by cases ha⟩, trivial⟩, ⟨List.forall_mem_cons.mpr ⟨ka_Po_readRule_76_0, fun a ha => by cases ha⟩, trivial⟩, trivial⟩).at h⟩
