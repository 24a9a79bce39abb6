theorem ke_M_isRule : chkE GXL9 3000 374 ct_M_isRuleL9 = true := by decide +kernel
theorem kk_M_isRule : Chk GXL9 3000 374 ct_M_isRuleL9 := ⟨ke_M_isRule, fun pc as h => (show BT.AllP (fun pc as => ∀ a ∈ as, chkA GXL9 3000 374 ct_M_isRuleL9 pc a = true) ct_M_isRuleL9.cut from trivial).at h⟩
theorem ke_M_policy : chkE GXL9 3000 375 ct_M_policy = true := by decide +kernel
theorem ka_M_policy_60_0 : chkA GXL9 3000 375 ct_M_policy 60 ca_M_policy_60_0 = true := by decide +kernel
theorem ka_M_policy_60_1 : chkA GXL9 3000 375 ct_M_policy 60 ca_M_policy_60_1 = true := by decide +kernel
theorem kk_M_policy : Chk GXL9 3000 375 ct_M_policy := ⟨ke_M_policy, fun pc as h => (show BT.AllP (fun pc as => ∀ a ∈ as, chkA GXL9 3000 375 ct_M_policy pc a = true) ct_M_policy.cut from ⟨⟨List.forall_mem_cons.mpr ⟨ka_M_policy_60_0, List.forall_mem_cons.mpr ⟨ka_M_policy_60_1, fun a ha => by cases ha⟩⟩, trivial⟩, trivial⟩).at h⟩
theorem ke_M_rulesL9 : chkE GXL9 3000 377 ct_M_rules = true := by decide +kernel
theorem kk_M_rulesL9 : Chk GXL9 3000 377 ct_M_rules := ⟨ke_M_rulesL9, fun pc as h => (show BT.AllP (fun pc as => ∀ a ∈ as, chkA GXL9 3000 377 ct_M_rules pc a = true) ct_M_rules.cut from trivial).at h⟩
theorem ke_M_pushItemL9 : chkE GXL9 3000 379 ct_M_pushItemL9 = true := by decide +kernel
theorem kk_M_pushItemL9 : Chk GXL9 3000 379 ct_M_pushItemL9 := ⟨ke_M_pushItemL9, fun pc as h => (show BT.AllP (fun pc as => ∀ a ∈ as, chkA GXL9 3000 379 ct_M_pushItemL9 pc a = true) ct_M_pushItemL9.cut from trivial).at h⟩
theorem ke_M_pushAtL9 : chkE GXL9 3000 380 ct_M_pushAtL9 = true := by decide +kernel
theorem kk_M_pushAtL9 : Chk GXL9 3000 380 ct_M_pushAtL9 := ⟨ke_M_pushAtL9, fun pc as h => (show BT.AllP (fun pc as => ∀ a ∈ as, chkA GXL9 3000 380 ct_M_pushAtL9 pc a = true) ct_M_pushAtL9.cut from trivial).at h⟩
theorem ke_M_pushInL9 : chkE GXL9 3000 381 ct_M_pushInL9 = true := by decide +kernel
theorem ka_M_pushIn_105_0L9 : chkA GXL9 3000 381 ct_M_pushInL9 105 ca_M_pushIn_105_0L9 = true := by decide +kernel
theorem kk_M_pushInL9 : Chk GXL9 3000 381 ct_M_pushInL9 := ⟨ke_M_pushInL9, fun pc as h => (show BT.AllP (fun pc as => ∀ a ∈ as, chkA GXL9 3000 381 ct_M_pushInL9 pc a = true) ct_M_pushInL9.cut from ⟨⟨List.forall_mem_cons.mpr ⟨ka_M_pushIn_105_0L9, fun a ha => by cases ha⟩, trivial⟩, trivial⟩).at h⟩
theorem ke_M_pushOfL9 : chkE GXL9 3000 383 ct_M_pushOfL9 = true := by decide +kernel
