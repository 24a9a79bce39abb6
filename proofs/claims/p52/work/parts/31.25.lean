theorem ka_M_evaluate_8_0 : chkA GX 3000 385 ct_M_evaluate 8 ca_M_evaluate_8_0 = true := by decide +kernel
theorem kk_M_evaluate : Chk GX 3000 385 ct_M_evaluate := ⟨ke_M_evaluate, fun pc as h => (show BT.AllP (fun pc as => ∀ a ∈ as, chkA GX 3000 385 ct_M_evaluate pc a = true) ct_M_evaluate.cut from ⟨⟨List.forall_mem_cons.mpr ⟨ka_M_evaluate_8_0, fun a ha => by cases ha⟩, trivial⟩, trivial⟩).at h⟩
