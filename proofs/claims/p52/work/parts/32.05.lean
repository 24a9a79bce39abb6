theorem ke_Po_readItem : chkE GX 3000 91 ct_Po_readItem = true := by decide +kernel
theorem kk_Po_readItem : Chk GX 3000 91 ct_Po_readItem := ⟨ke_Po_readItem, fun pc as h => (show BT.AllP (fun pc as => ∀ a ∈ as, chkA GX 3000 91 ct_Po_readItem pc a = true) ct_Po_readItem.cut from trivial).at h⟩
