theorem kre_M_isRuleThing : chkE GXo 3000 373 ctr_M_isRuleThing = true := by decide +kernel
theorem kr_M_isRuleThing : Chk GXo 3000 373 ctr_M_isRuleThing := ⟨kre_M_isRuleThing, fun pc as h => (show BT.AllP (fun pc as => ∀ a ∈ as, chkA GXo 3000 373 ctr_M_isRuleThing pc a = true) ctr_M_isRuleThing.cut from trivial).at h⟩
