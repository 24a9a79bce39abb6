theorem ke_M_isWho : chkE GX 3000 371 ct_M_isWho = true := by decide +kernel
theorem kk_M_isWho : Chk GX 3000 371 ct_M_isWho := ⟨ke_M_isWho, fun pc as h => (show BT.AllP (fun pc as => ∀ a ∈ as, chkA GX 3000 371 ct_M_isWho pc a = true) ct_M_isWho.cut from trivial).at h⟩
theorem ke_M_isAct : chkE GX 3000 372 ct_M_isAct = true := by decide +kernel
theorem kk_M_isAct : Chk GX 3000 372 ct_M_isAct := ⟨ke_M_isAct, fun pc as h => (show BT.AllP (fun pc as => ∀ a ∈ as, chkA GX 3000 372 ct_M_isAct pc a = true) ct_M_isAct.cut from trivial).at h⟩
theorem ke_M_isRuleThing : chkE GX 3000 373 ct_M_isRuleThing = true := by decide +kernel
theorem kk_M_isRuleThing : Chk GX 3000 373 ct_M_isRuleThing := ⟨ke_M_isRuleThing, fun pc as h => (show BT.AllP (fun pc as => ∀ a ∈ as, chkA GX 3000 373 ct_M_isRuleThing pc a = true) ct_M_isRuleThing.cut from trivial).at h⟩
