theorem ke_Po_readComparison : chkE GX 3000 97 ct_Po_readComparison = true := by decide +kernel
theorem kk_Po_readComparison : Chk GX 3000 97 ct_Po_readComparison := ⟨ke_Po_readComparison, fun pc as h => (show BT.AllP (fun pc as => ∀ a ∈ as, chkA GX 3000 97 ct_Po_readComparison pc a = true) ct_Po_readComparison.cut from trivial).at h⟩
