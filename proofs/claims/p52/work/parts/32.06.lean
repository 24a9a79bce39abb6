theorem ke_Po_readNested : chkE GX 3000 92 ct_Po_readNested = true := by decide +kernel
theorem kk_Po_readNested : Chk GX 3000 92 ct_Po_readNested := ⟨ke_Po_readNested, fun pc as h => (show BT.AllP (fun pc as => ∀ a ∈ as, chkA GX 3000 92 ct_Po_readNested pc a = true) ct_Po_readNested.cut from trivial).at h⟩
