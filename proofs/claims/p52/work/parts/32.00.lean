theorem ke_Po_readEffect : chkE GX 3000 81 ct_Po_readEffect = true := by decide +kernel
theorem kk_Po_readEffect : Chk GX 3000 81 ct_Po_readEffect := ⟨ke_Po_readEffect, fun pc as h => (show BT.AllP (fun pc as => ∀ a ∈ as, chkA GX 3000 81 ct_Po_readEffect pc a = true) ct_Po_readEffect.cut from trivial).at h⟩
