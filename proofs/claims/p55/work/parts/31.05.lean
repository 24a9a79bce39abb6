theorem ke_Po_readTerm : chkE GX 3000 93 ct_Po_readTerm = true := by decide +kernel
theorem kk_Po_readTerm : Chk GX 3000 93 ct_Po_readTerm := ⟨ke_Po_readTerm, fun pc as h => (show BT.AllP (fun pc as => ∀ a ∈ as, chkA GX 3000 93 ct_Po_readTerm pc a = true) ct_Po_readTerm.cut from trivial).at h⟩
theorem ke_Po_readProduct : chkE GX 3000 94 ct_Po_readProduct = true := by decide +kernel
theorem ka_Po_readProduct_12_0 : chkA GX 3000 94 ct_Po_readProduct 12 ca_Po_readProduct_12_0 = true := by decide +kernel
theorem kk_Po_readProduct : Chk GX 3000 94 ct_Po_readProduct := ⟨ke_Po_readProduct, fun pc as h => (show BT.AllP (fun pc as => ∀ a ∈ as, chkA GX 3000 94 ct_Po_readProduct pc a = true) ct_Po_readProduct.cut from ⟨⟨List.forall_mem_cons.mpr ⟨ka_Po_readProduct_12_0, fun a ha => by cases ha⟩, trivial⟩, trivial⟩).at h⟩
theorem ke_Po_readSum : chkE GX 3000 95 ct_Po_readSum = true := by decide +kernel
theorem ka_Po_readSum_12_0 : chkA GX 3000 95 ct_Po_readSum 12 ca_Po_readSum_12_0 = true := by decide +kernel
theorem kk_Po_readSum : Chk GX 3000 95 ct_Po_readSum := ⟨ke_Po_readSum, fun pc as h => (show BT.AllP (fun pc as => ∀ a ∈ as, chkA GX 3000 95 ct_Po_readSum pc a = true) ct_Po_readSum.cut from ⟨⟨List.forall_mem_cons.mpr ⟨ka_Po_readSum_12_0, fun a ha => by cases ha⟩, trivial⟩, trivial⟩).at h⟩
