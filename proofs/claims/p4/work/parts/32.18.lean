theorem ke_M_wanted : chkE GX 3000 362 ct_M_wanted = true := by decide +kernel
theorem kk_M_wanted : Chk GX 3000 362 ct_M_wanted := ⟨ke_M_wanted, fun pc as h => (show BT.AllP (fun pc as => ∀ a ∈ as, chkA GX 3000 362 ct_M_wanted pc a = true) ct_M_wanted.cut from trivial).at h⟩
