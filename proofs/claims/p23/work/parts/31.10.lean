theorem ke_M_pushJoined : chkE GX 3000 384 ct_M_pushJoined = true := by decide +kernel
theorem kk_M_pushJoined : Chk GX 3000 384 ct_M_pushJoined := ⟨ke_M_pushJoined, fun pc as h => (show BT.AllP (fun pc as => ∀ a ∈ as, chkA GX 3000 384 ct_M_pushJoined pc a = true) ct_M_pushJoined.cut from trivial).at h⟩
theorem ke_M_evaluate : chkE GX 3000 385 ct_M_evaluate = true := by decide +kernel
theorem ka_M_evaluate_8_0 : chkA GX 3000 385 ct_M_evaluate 8 ca_M_evaluate_8_0 = true := by decide +kernel
theorem kk_M_evaluate : Chk GX 3000 385 ct_M_evaluate := ⟨ke_M_evaluate, fun pc as h => (show BT.AllP (fun pc as => ∀ a ∈ as, chkA GX 3000 385 ct_M_evaluate pc a = true) ct_M_evaluate.cut from ⟨⟨List.forall_mem_cons.mpr ⟨ka_M_evaluate_8_0, fun a ha => by cases ha⟩, trivial⟩, trivial⟩).at h⟩
theorem ke_M_says : chkE GX 3000 386 ct_M_says = true := by decide +kernel
theorem kk_M_says : Chk GX 3000 386 ct_M_says := ⟨ke_M_says, fun pc as h => (show BT.AllP (fun pc as => ∀ a ∈ as, chkA GX 3000 386 ct_M_says pc a = true) ct_M_says.cut from trivial).at h⟩
theorem ke_M_judge : chkE GX 3000 388 ct_M_judge = true := by decide +kernel
