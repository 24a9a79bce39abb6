theorem ke_M_saysL9 : chkE GXL9 3000 386 ct_M_saysL9 = true := by decide +kernel
theorem kk_M_saysL9 : Chk GXL9 3000 386 ct_M_saysL9 := ⟨ke_M_saysL9, fun pc as h => (show BT.AllP (fun pc as => ∀ a ∈ as, chkA GXL9 3000 386 ct_M_saysL9 pc a = true) ct_M_saysL9.cut from trivial).at h⟩
theorem ke_M_judgeL9 : chkE GXL9 3000 388 ct_M_judgeL9 = true := by decide +kernel
theorem ka_M_judge_31_0L9 : chkA GXL9 3000 388 ct_M_judgeL9 31 ca_M_judge_31_0L9 = true := by decide +kernel
