theorem kre_M_isAct : chkE GXo 3000 372 ctr_M_isAct = true := by decide +kernel
theorem kr_M_isAct : Chk GXo 3000 372 ctr_M_isAct := ⟨kre_M_isAct, fun pc as h => (show BT.AllP (fun pc as => ∀ a ∈ as, chkA GXo 3000 372 ctr_M_isAct pc a = true) ctr_M_isAct.cut from trivial).at h⟩
