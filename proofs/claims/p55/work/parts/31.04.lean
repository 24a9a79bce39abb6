theorem ke_Po_readFeature : chkE GX 3000 89 ct_Po_readFeature = true := by decide +kernel
theorem kk_Po_readFeature : Chk GX 3000 89 ct_Po_readFeature := ⟨ke_Po_readFeature, fun pc as h => (show BT.AllP (fun pc as => ∀ a ∈ as, chkA GX 3000 89 ct_Po_readFeature pc a = true) ct_Po_readFeature.cut from trivial).at h⟩
theorem ke_Po_readItem : chkE GX 3000 91 ct_Po_readItem = true := by decide +kernel
theorem kk_Po_readItem : Chk GX 3000 91 ct_Po_readItem := ⟨ke_Po_readItem, fun pc as h => (show BT.AllP (fun pc as => ∀ a ∈ as, chkA GX 3000 91 ct_Po_readItem pc a = true) ct_Po_readItem.cut from trivial).at h⟩
theorem ke_Po_readNested : chkE GX 3000 92 ct_Po_readNested = true := by decide +kernel
theorem kk_Po_readNested : Chk GX 3000 92 ct_Po_readNested := ⟨ke_Po_readNested, fun pc as h => (show BT.AllP (fun pc as => ∀ a ∈ as, chkA GX 3000 92 ct_Po_readNested pc a = true) ct_Po_readNested.cut from trivial).at h⟩
