theorem ke_M_isWho : chkE GXL9 3000 371 ct_M_isWhoL9 = true := by decide +kernel
theorem kk_M_isWho : Chk GXL9 3000 371 ct_M_isWhoL9 := ⟨ke_M_isWho, fun pc as h => (show BT.AllP (fun pc as => ∀ a ∈ as, chkA GXL9 3000 371 ct_M_isWhoL9 pc a = true) ct_M_isWhoL9.cut from trivial).at h⟩
theorem ke_M_isAct : chkE GXL9 3000 372 ct_M_isActL9 = true := by decide +kernel
theorem kk_M_isAct : Chk GXL9 3000 372 ct_M_isActL9 := ⟨ke_M_isAct, fun pc as h => (show BT.AllP (fun pc as => ∀ a ∈ as, chkA GXL9 3000 372 ct_M_isActL9 pc a = true) ct_M_isActL9.cut from trivial).at h⟩
theorem ke_M_isRuleThing : chkE GXL9 3000 373 ct_M_isRuleThingL9 = true := by decide +kernel
theorem kk_M_isRuleThing : Chk GXL9 3000 373 ct_M_isRuleThingL9 := ⟨ke_M_isRuleThing, fun pc as h => (show BT.AllP (fun pc as => ∀ a ∈ as, chkA GXL9 3000 373 ct_M_isRuleThingL9 pc a = true) ct_M_isRuleThingL9.cut from trivial).at h⟩
