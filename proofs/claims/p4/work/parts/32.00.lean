theorem ke_Po_isWord : chkE GX 3000 79 ct_Po_isWord = true := by decide +kernel
theorem kk_Po_isWord : Chk GX 3000 79 ct_Po_isWord := ⟨ke_Po_isWord, fun pc as h => (show BT.AllP (fun pc as => ∀ a ∈ as, chkA GX 3000 79 ct_Po_isWord pc a = true) ct_Po_isWord.cut from trivial).at h⟩
