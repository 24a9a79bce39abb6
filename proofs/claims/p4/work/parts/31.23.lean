theorem ke_M_judge : chkE GX 3000 387 ct_M_judge = true := by decide +kernel
theorem ka_M_judge_31_0 : chkA GX 3000 387 ct_M_judge 31 ca_M_judge_31_0 = true := by decide +kernel
theorem ka_M_judge_31_1 : chkA GX 3000 387 ct_M_judge 31 ca_M_judge_31_1 = true := by decide +kernel
theorem kk_M_judge : Chk GX 3000 387 ct_M_judge := ⟨ke_M_judge, fun pc as h => (show BT.AllP (fun pc as => ∀ a ∈ as, chkA GX 3000 387 ct_M_judge pc a = true) ct_M_judge.cut from ⟨⟨List.forall_mem_cons.mpr ⟨ka_M_judge_31_0, List.forall_mem_cons.mpr ⟨ka_M_judge_31_1, fun a ha => by cases ha⟩⟩, trivial⟩, trivial⟩).at h⟩
theorem ke_M_forceAt : chkE GX 3000 389 ct_M_forceAt = true := by decide +kernel
theorem ka_M_forceAt_5_0 : chkA GX 3000 389 ct_M_forceAt 5 ca_M_forceAt_5_0 = true := by decide +kernel
theorem kk_M_forceAt : Chk GX 3000 389 ct_M_forceAt := ⟨ke_M_forceAt, fun pc as h => (show BT.AllP (fun pc as => ∀ a ∈ as, chkA GX 3000 389 ct_M_forceAt pc a = true) ct_M_forceAt.cut from ⟨⟨List.forall_mem_cons.mpr ⟨ka_M_forceAt_5_0, fun a ha => by cases ha⟩, trivial⟩, trivial⟩).at h⟩
theorem ke_M_inForce : chkE GX 3000 390 ct_M_inForce = true := by decide +kernel
theorem kk_M_inForce : Chk GX 3000 390 ct_M_inForce := ⟨ke_M_inForce, fun pc as h => (show BT.AllP (fun pc as => ∀ a ∈ as, chkA GX 3000 390 ct_M_inForce pc a = true) ct_M_inForce.cut from trivial).at h⟩
