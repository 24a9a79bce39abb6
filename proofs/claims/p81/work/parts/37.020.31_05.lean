theorem ke_Po_readTerm : chkE GXL9 3000 93 ct_Po_readTermL9 = true := by decide +kernel
theorem kk_Po_readTerm : Chk GXL9 3000 93 ct_Po_readTermL9 := ⟨ke_Po_readTerm, fun pc as h => (show BT.AllP (fun pc as => ∀ a ∈ as, chkA GXL9 3000 93 ct_Po_readTermL9 pc a = true) ct_Po_readTermL9.cut from trivial).at h⟩
theorem ke_Po_readProduct : chkE GXL9 3000 94 ct_Po_readProductL9 = true := by decide +kernel
theorem ka_Po_readProduct_12_0 : chkA GXL9 3000 94 ct_Po_readProductL9 12 ca_Po_readProduct_12_0L9 = true := by decide +kernel
theorem kk_Po_readProduct : Chk GXL9 3000 94 ct_Po_readProductL9 := ⟨ke_Po_readProduct, fun pc as h => (show BT.AllP (fun pc as => ∀ a ∈ as, chkA GXL9 3000 94 ct_Po_readProductL9 pc a = true) ct_Po_readProductL9.cut from ⟨⟨List.forall_mem_cons.mpr ⟨ka_Po_readProduct_12_0, fun a ha => by cases ha⟩, trivial⟩, trivial⟩).at h⟩
theorem ke_Po_readSum : chkE GXL9 3000 95 ct_Po_readSumL9 = true := by decide +kernel
theorem ka_Po_readSum_12_0 : chkA GXL9 3000 95 ct_Po_readSumL9 12 ca_Po_readSum_12_0L9 = true := by decide +kernel
theorem kk_Po_readSum : Chk GXL9 3000 95 ct_Po_readSumL9 := ⟨ke_Po_readSum, fun pc as h => (show BT.AllP (fun pc as => ∀ a ∈ as, chkA GXL9 3000 95 ct_Po_readSumL9 pc a = true) ct_Po_readSumL9.cut from ⟨⟨List.forall_mem_cons.mpr ⟨ka_Po_readSum_12_0, fun a ha => by cases ha⟩, trivial⟩, trivial⟩).at h⟩
