theorem ke_Po_readRule : chkE GX 3000 103 ct_Po_readRule = true := by decide +kernel
theorem kk_Po_readRule : Chk GX 3000 103 ct_Po_readRule := ⟨ke_Po_readRule, fun pc as h => (show BT.AllP (fun pc as => ∀ a ∈ as, chkA GX 3000 103 ct_Po_readRule pc a = true) ct_Po_readRule.cut from trivial).at h⟩
