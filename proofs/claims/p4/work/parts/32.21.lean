theorem ke_M_gets : chkE GX 3000 437 ct_M_gets = true := by decide +kernel
theorem kk_M_gets : Chk GX 3000 437 ct_M_gets := ⟨ke_M_gets, fun pc as h => (show BT.AllP (fun pc as => ∀ a ∈ as, chkA GX 3000 437 ct_M_gets pc a = true) ct_M_gets.cut from trivial).at h⟩
