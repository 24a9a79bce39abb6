theorem kre_M_isWho : chkE GXo 3000 371 ctr_M_isWho = true := by decide +kernel
theorem kr_M_isWho : Chk GXo 3000 371 ctr_M_isWho := ⟨kre_M_isWho, fun pc as h => (show BT.AllP (fun pc as => ∀ a ∈ as, chkA GXo 3000 371 ctr_M_isWho pc a = true) ctr_M_isWho.cut from trivial).at h⟩
