theorem ke_Po_readWho : chkE GX 3000 83 ct_Po_readWho = true := by decide +kernel
theorem kk_Po_readWho : Chk GX 3000 83 ct_Po_readWho := ⟨ke_Po_readWho, fun pc as h => (show BT.AllP (fun pc as => ∀ a ∈ as, chkA GX 3000 83 ct_Po_readWho pc a = true) ct_Po_readWho.cut from trivial).at h⟩
