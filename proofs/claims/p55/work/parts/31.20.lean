theorem ke_M_isRule : chkE GX 3000 374 ct_M_isRule = true := by decide +kernel
theorem kk_M_isRule : Chk GX 3000 374 ct_M_isRule := ⟨ke_M_isRule, fun pc as h => (show BT.AllP (fun pc as => ∀ a ∈ as, chkA GX 3000 374 ct_M_isRule pc a = true) ct_M_isRule.cut from trivial).at h⟩
theorem ke_M_policy : chkE GX 3000 375 ct_M_policy = true := by decide +kernel
theorem ka_M_policy_60_0 : chkA GX 3000 375 ct_M_policy 60 ca_M_policy_60_0 = true := by decide +kernel
theorem ka_M_policy_60_1 : chkA GX 3000 375 ct_M_policy 60 ca_M_policy_60_1 = true := by decide +kernel
theorem kk_M_policy : Chk GX 3000 375 ct_M_policy := ⟨ke_M_policy, fun pc as h => (show BT.AllP (fun pc as => ∀ a ∈ as, chkA GX 3000 375 ct_M_policy pc a = true) ct_M_policy.cut from ⟨⟨List.forall_mem_cons.mpr ⟨ka_M_policy_60_0, List.forall_mem_cons.mpr ⟨ka_M_policy_60_1, fun a ha => by cases ha⟩⟩, trivial⟩, trivial⟩).at h⟩
theorem ke_M_rules : chkE GX 3000 377 ct_M_rules = true := by decide +kernel
theorem kk_M_rules : Chk GX 3000 377 ct_M_rules := ⟨ke_M_rules, fun pc as h => (show BT.AllP (fun pc as => ∀ a ∈ as, chkA GX 3000 377 ct_M_rules pc a = true) ct_M_rules.cut from trivial).at h⟩
theorem ke_M_pushItem : chkE GX 3000 379 ct_M_pushItem = true := by decide +kernel
theorem kk_M_pushItem : Chk GX 3000 379 ct_M_pushItem := ⟨ke_M_pushItem, fun pc as h => (show BT.AllP (fun pc as => ∀ a ∈ as, chkA GX 3000 379 ct_M_pushItem pc a = true) ct_M_pushItem.cut from trivial).at h⟩
theorem ke_M_pushAt : chkE GX 3000 380 ct_M_pushAt = true := by decide +kernel
theorem kk_M_pushAt : Chk GX 3000 380 ct_M_pushAt := ⟨ke_M_pushAt, fun pc as h => (show BT.AllP (fun pc as => ∀ a ∈ as, chkA GX 3000 380 ct_M_pushAt pc a = true) ct_M_pushAt.cut from trivial).at h⟩
theorem ke_M_pushIn : chkE GX 3000 381 ct_M_pushIn = true := by decide +kernel
theorem ka_M_pushIn_105_0 : chkA GX 3000 381 ct_M_pushIn 105 ca_M_pushIn_105_0 = true := by decide +kernel
theorem kk_M_pushIn : Chk GX 3000 381 ct_M_pushIn := ⟨ke_M_pushIn, fun pc as h => (show BT.AllP (fun pc as => ∀ a ∈ as, chkA GX 3000 381 ct_M_pushIn pc a = true) ct_M_pushIn.cut from ⟨⟨List.forall_mem_cons.mpr ⟨ka_M_pushIn_105_0, fun a ha => by cases ha⟩, trivial⟩, trivial⟩).at h⟩
theorem ke_M_pushOf : chkE GX 3000 383 ct_M_pushOf = true := by decide +kernel
