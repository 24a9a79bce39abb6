theorem ke_Po_readTerm : chkE GX 3000 93 ct_Po_readTerm = true := by decide +kernel
theorem kk_Po_readTerm : Chk GX 3000 93 ct_Po_readTerm := ⟨ke_Po_readTerm, fun pc as h => (show BT.AllP (fun pc as => ∀ a ∈ as, chkA GX 3000 93 ct_Po_readTerm pc a = true) ct_Po_readTerm.cut from trivial).at h⟩
