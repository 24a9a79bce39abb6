theorem ke_M_says : chkE GX 3000 386 ct_M_says = true := by decide +kernel
theorem kk_M_says : Chk GX 3000 386 ct_M_says := ⟨ke_M_says, fun pc as h => (show BT.AllP (fun pc as => ∀ a ∈ as, chkA GX 3000 386 ct_M_says pc a = true) ct_M_says.cut from trivial).at h⟩
theorem ke_M_judge : chkE GX 3000 388 ct_M_judge = true := by decide +kernel
theorem ka_M_judge_31_0 : chkA GX 3000 388 ct_M_judge 31 ca_M_judge_31_0 = true := by decide +kernel
