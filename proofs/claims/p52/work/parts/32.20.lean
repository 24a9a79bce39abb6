theorem ke_M_isRule : chkE GX 3000 374 ct_M_isRule = true := by decide +kernel
theorem kk_M_isRule : Chk GX 3000 374 ct_M_isRule := ⟨ke_M_isRule, fun pc as h => (show BT.AllP (fun pc as => ∀ a ∈ as, chkA GX 3000 374 ct_M_isRule pc a = true) ct_M_isRule.cut from trivial).at h⟩
