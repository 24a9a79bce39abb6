theorem kre_M_isWho : chkE GXo 3000 371 ctr_M_isWho = true := by decide +kernel
theorem kr_M_isWho : Chk GXo 3000 371 ctr_M_isWho := ⟨kre_M_isWho, fun pc as h => (show BT.AllP (fun pc as => ∀ a ∈ as, chkA GXo 3000 371 ctr_M_isWho pc a = true) ctr_M_isWho.cut from trivial).at h⟩
theorem kre_M_isAct : chkE GXo 3000 372 ctr_M_isAct = true := by decide +kernel
theorem kr_M_isAct : Chk GXo 3000 372 ctr_M_isAct := ⟨kre_M_isAct, fun pc as h => (show BT.AllP (fun pc as => ∀ a ∈ as, chkA GXo 3000 372 ctr_M_isAct pc a = true) ctr_M_isAct.cut from trivial).at h⟩
theorem kre_M_isRuleThing : chkE GXo 3000 373 ctr_M_isRuleThing = true := by decide +kernel
theorem kr_M_isRuleThing : Chk GXo 3000 373 ctr_M_isRuleThing := ⟨kre_M_isRuleThing, fun pc as h => (show BT.AllP (fun pc as => ∀ a ∈ as, chkA GXo 3000 373 ctr_M_isRuleThing pc a = true) ctr_M_isRuleThing.cut from trivial).at h⟩
