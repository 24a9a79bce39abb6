theorem kre_Po_readComparison : chkE GXo 3000 97 ctr_Po_readComparison = true := by decide +kernel
theorem kr_Po_readComparison : Chk GXo 3000 97 ctr_Po_readComparison := ⟨kre_Po_readComparison, fun pc as h => (show BT.AllP (fun pc as => ∀ a ∈ as, chkA GXo 3000 97 ctr_Po_readComparison pc a = true) ctr_Po_readComparison.cut from trivial).at h⟩
