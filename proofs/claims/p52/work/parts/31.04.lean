theorem ke_Po_splitSign : chkE GX 3000 72 ct_Po_splitSign = true := by decide +kernel
theorem kk_Po_splitSign : Chk GX 3000 72 ct_Po_splitSign := ⟨ke_Po_splitSign, fun pc as h => (show BT.AllP (fun pc as => ∀ a ∈ as, chkA GX 3000 72 ct_Po_splitSign pc a = true) ct_Po_splitSign.cut from trivial).at h⟩
