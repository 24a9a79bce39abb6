theorem ke1_Po_readFeature : chkE GX1 3000 89 ct_Po_readFeature = true := by decide +kernel
theorem kk1_Po_readFeature : Chk GX1 3000 89 ct_Po_readFeature := ⟨ke1_Po_readFeature, fun pc as h => (show BT.AllP (fun pc as => ∀ a ∈ as, chkA GX1 3000 89 ct_Po_readFeature pc a = true) ct_Po_readFeature.cut from trivial).at h⟩
theorem ke1_Po_readItem : chkE GX1 3000 91 ct_Po_readItem = true := by decide +kernel
theorem kk1_Po_readItem : Chk GX1 3000 91 ct_Po_readItem := ⟨ke1_Po_readItem, fun pc as h => (show BT.AllP (fun pc as => ∀ a ∈ as, chkA GX1 3000 91 ct_Po_readItem pc a = true) ct_Po_readItem.cut from trivial).at h⟩
theorem ke1_Po_readNested : chkE GX1 3000 92 ct_Po_readNested = true := by decide +kernel
theorem kk1_Po_readNested : Chk GX1 3000 92 ct_Po_readNested := ⟨ke1_Po_readNested, fun pc as h => (show BT.AllP (fun pc as => ∀ a ∈ as, chkA GX1 3000 92 ct_Po_readNested pc a = true) ct_Po_readNested.cut from trivial).at h⟩
