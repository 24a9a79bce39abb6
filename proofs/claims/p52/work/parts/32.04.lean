theorem ke_Po_readFeature : chkE GX 3000 89 ct_Po_readFeature = true := by decide +kernel
theorem kk_Po_readFeature : Chk GX 3000 89 ct_Po_readFeature := ⟨ke_Po_readFeature, fun pc as h => (show BT.AllP (fun pc as => ∀ a ∈ as, chkA GX 3000 89 ct_Po_readFeature pc a = true) ct_Po_readFeature.cut from trivial).at h⟩
