theorem ke_Po_readBothWays : chkE GX 3000 99 ct_Po_readBothWays = true := by decide +kernel
theorem kk_Po_readBothWays : Chk GX 3000 99 ct_Po_readBothWays := ⟨ke_Po_readBothWays, fun pc as h => (show BT.AllP (fun pc as => ∀ a ∈ as, chkA GX 3000 99 ct_Po_readBothWays pc a = true) ct_Po_readBothWays.cut from trivial).at h⟩
