theorem kre_M_isRule : chkE GXo 3000 374 ctr_M_isRule = true := by decide +kernel
theorem kr_M_isRule : Chk GXo 3000 374 ctr_M_isRule := ⟨kre_M_isRule, fun pc as h => (show BT.AllP (fun pc as => ∀ a ∈ as, chkA GXo 3000 374 ctr_M_isRule pc a = true) ctr_M_isRule.cut from trivial).at h⟩
