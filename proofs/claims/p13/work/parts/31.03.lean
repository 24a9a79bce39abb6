theorem ke_Po_readAct : chkE GX 3000 85 ct_Po_readAct = true := by decide +kernel
theorem kk_Po_readAct : Chk GX 3000 85 ct_Po_readAct := ⟨ke_Po_readAct, fun pc as h => (show BT.AllP (fun pc as => ∀ a ∈ as, chkA GX 3000 85 ct_Po_readAct pc a = true) ct_Po_readAct.cut from trivial).at h⟩
theorem ke_Po_readThing : chkE GX 3000 87 ct_Po_readThing = true := by decide +kernel
theorem kk_Po_readThing : Chk GX 3000 87 ct_Po_readThing := ⟨ke_Po_readThing, fun pc as h => (show BT.AllP (fun pc as => ∀ a ∈ as, chkA GX 3000 87 ct_Po_readThing pc a = true) ct_Po_readThing.cut from trivial).at h⟩
