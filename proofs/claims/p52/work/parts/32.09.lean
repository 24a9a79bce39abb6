theorem ke_Po_readSum : chkE GX 3000 95 ct_Po_readSum = true := by decide +kernel
theorem ka_Po_readSum_12_0 : chkA GX 3000 95 ct_Po_readSum 12 ca_Po_readSum_12_0 = true := by decide +kernel
theorem kk_Po_readSum : Chk GX 3000 95 ct_Po_readSum := ⟨ke_Po_readSum, fun pc as h => (show BT.AllP (fun pc as => ∀ a ∈ as, chkA GX 3000 95 ct_Po_readSum pc a = true) ct_Po_readSum.cut from ⟨⟨List.forall_mem_cons.mpr ⟨ka_Po_readSum_12_0, fun a ha => by cases ha⟩, trivial⟩, trivial⟩).at h⟩
