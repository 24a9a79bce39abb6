theorem ke_M_isRuleThing : chkE GX 3000 372 ct_M_isRuleThing = true := by decide +kernel
theorem kk_M_isRuleThing : Chk GX 3000 372 ct_M_isRuleThing := ⟨ke_M_isRuleThing, fun pc as h => (show BT.AllP (fun pc as => ∀ a ∈ as, chkA GX 3000 372 ct_M_isRuleThing pc a = true) ct_M_isRuleThing.cut from trivial).at h⟩
theorem ke_M_isRule : chkE GX 3000 373 ct_M_isRule = true := by decide +kernel
theorem kk_M_isRule : Chk GX 3000 373 ct_M_isRule := ⟨ke_M_isRule, fun pc as h => (show BT.AllP (fun pc as => ∀ a ∈ as, chkA GX 3000 373 ct_M_isRule pc a = true) ct_M_isRule.cut from trivial).at h⟩
theorem ke_M_policy : chkE GX 3000 374 ct_M_policy = true := by decide +kernel
theorem ka_M_policy_60_0 : chkA GX 3000 374 ct_M_policy 60 ca_M_policy_60_0 = true := by decide +kernel
theorem kk_M_policy : Chk GX 3000 374 ct_M_policy := ⟨ke_M_policy, fun pc as h => (show BT.AllP (fun pc as => ∀ a ∈ as, chkA GX 3000 374 ct_M_policy pc a = true) ct_M_policy.cut from ⟨⟨List.forall_mem_cons.mpr ⟨ka_M_policy_60_0, fun a ha => by cases ha⟩, trivial⟩, trivial⟩).at h⟩
theorem ke_M_rules : chkE GX 3000 376 ct_M_rules = true := by decide +kernel
theorem kk_M_rules : Chk GX 3000 376 ct_M_rules := ⟨ke_M_rules, fun pc as h => (show BT.AllP (fun pc as => ∀ a ∈ as, chkA GX 3000 376 ct_M_rules pc a = true) ct_M_rules.cut from trivial).at h⟩
