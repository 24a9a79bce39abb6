theorem ke_Po_readSuch : chkE GX 3000 100 ct_Po_readSuch = true := by decide +kernel
theorem kk_Po_readSuch : Chk GX 3000 100 ct_Po_readSuch := ⟨ke_Po_readSuch, fun pc as h => (show BT.AllP (fun pc as => ∀ a ∈ as, chkA GX 3000 100 ct_Po_readSuch pc a = true) ct_Po_readSuch.cut from trivial).at h⟩
