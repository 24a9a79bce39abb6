theorem ke_Po_readFeature : chkE GXL9 3000 89 ct_Po_readFeatureL9 = true := by decide +kernel
theorem kk_Po_readFeature : Chk GXL9 3000 89 ct_Po_readFeatureL9 := ⟨ke_Po_readFeature, fun pc as h => (show BT.AllP (fun pc as => ∀ a ∈ as, chkA GXL9 3000 89 ct_Po_readFeatureL9 pc a = true) ct_Po_readFeatureL9.cut from trivial).at h⟩
theorem ke_Po_readItem : chkE GXL9 3000 91 ct_Po_readItemL9 = true := by decide +kernel
theorem kk_Po_readItem : Chk GXL9 3000 91 ct_Po_readItemL9 := ⟨ke_Po_readItem, fun pc as h => (show BT.AllP (fun pc as => ∀ a ∈ as, chkA GXL9 3000 91 ct_Po_readItemL9 pc a = true) ct_Po_readItemL9.cut from trivial).at h⟩
theorem ke_Po_readNested : chkE GXL9 3000 92 ct_Po_readNestedL9 = true := by decide +kernel
theorem kk_Po_readNested : Chk GXL9 3000 92 ct_Po_readNestedL9 := ⟨ke_Po_readNested, fun pc as h => (show BT.AllP (fun pc as => ∀ a ∈ as, chkA GXL9 3000 92 ct_Po_readNestedL9 pc a = true) ct_Po_readNestedL9.cut from trivial).at h⟩
