theorem ka_M_condition_55_2 : chkA GX 3000 368 ct_M_condition 55 ca_M_condition_55_2 = true := by decide +kernel
theorem kk_M_condition : Chk GX 3000 368 ct_M_condition := ⟨ke_M_condition, fun pc as h => (show BT.AllP (fun pc as => ∀ a ∈ as, chkA GX 3000 368 ct_M_condition pc a = true) ct_M_condition.cut from ⟨⟨List.forall_mem_cons.mpr ⟨ka_M_condition_55_0, List.forall_mem_cons.mpr ⟨ka_M_condition_55_1, List.forall_mem_cons.mpr ⟨ka_M_condition_55_2, fun a ha => by cases ha⟩⟩⟩, trivial⟩, trivial⟩).at h⟩
theorem ke_M_isWho : chkE GX 3000 371 ct_M_isWho = true := by decide +kernel
theorem kk_M_isWho : Chk GX 3000 371 ct_M_isWho := ⟨ke_M_isWho, fun pc as h => (show BT.AllP (fun pc as => ∀ a ∈ as, chkA GX 3000 371 ct_M_isWho pc a = true) ct_M_isWho.cut from trivial).at h⟩
theorem ke_M_isAct : chkE GX 3000 372 ct_M_isAct = true := by decide +kernel
theorem kk_M_isAct : Chk GX 3000 372 ct_M_isAct := ⟨ke_M_isAct, fun pc as h => (show BT.AllP (fun pc as => ∀ a ∈ as, chkA GX 3000 372 ct_M_isAct pc a = true) ct_M_isAct.cut from trivial).at h⟩
theorem ke_M_isRuleThing : chkE GX 3000 373 ct_M_isRuleThing = true := by decide +kernel
theorem kk_M_isRuleThing : Chk GX 3000 373 ct_M_isRuleThing := ⟨ke_M_isRuleThing, fun pc as h => (show BT.AllP (fun pc as => ∀ a ∈ as, chkA GX 3000 373 ct_M_isRuleThing pc a = true) ct_M_isRuleThing.cut from trivial).at h⟩
theorem ke_M_policy : chkE GX 3000 375 ct_M_policy = true := by decide +kernel
theorem ka_M_policy_60_0 : chkA GX 3000 375 ct_M_policy 60 ca_M_policy_60_0 = true := by decide +kernel
theorem ka_M_policy_60_1 : chkA GX 3000 375 ct_M_policy 60 ca_M_policy_60_1 = true := by decide +kernel
theorem kk_M_policy : Chk GX 3000 375 ct_M_policy := ⟨ke_M_policy, fun pc as h => (show BT.AllP (fun pc as => ∀ a ∈ as, chkA GX 3000 375 ct_M_policy pc a = true) ct_M_policy.cut from ⟨⟨List.forall_mem_cons.mpr ⟨ka_M_policy_60_0, List.forall_mem_cons.mpr ⟨ka_M_policy_60_1, fun a ha => by cases ha⟩⟩, trivial⟩, trivial⟩).at h⟩
theorem ke_M_rules : chkE GX 3000 377 ct_M_rules = true := by decide +kernel
theorem kk_M_rules : Chk GX 3000 377 ct_M_rules := ⟨ke_M_rules, fun pc as h => (show BT.AllP (fun pc as => ∀ a ∈ as, chkA GX 3000 377 ct_M_rules pc a = true) ct_M_rules.cut from trivial).at h⟩
theorem ke_M_pushItem : chkE GX 3000 379 ct_M_pushItem = true := by decide +kernel
theorem kk_M_pushItem : Chk GX 3000 379 ct_M_pushItem := ⟨ke_M_pushItem, fun pc as h => (show BT.AllP (fun pc as => ∀ a ∈ as, chkA GX 3000 379 ct_M_pushItem pc a = true) ct_M_pushItem.cut from trivial).at h⟩
theorem ke_M_pushAt : chkE GX 3000 380 ct_M_pushAt = true := by decide +kernel
theorem kk_M_pushAt : Chk GX 3000 380 ct_M_pushAt := ⟨ke_M_pushAt, fun pc as h => (show BT.AllP (fun pc as => ∀ a ∈ as, chkA GX 3000 380 ct_M_pushAt pc a = true) ct_M_pushAt.cut from trivial).at h⟩
theorem ke_M_pushIn : chkE GX 3000 381 ct_M_pushIn = true := by decide +kernel
theorem ka_M_pushIn_105_0 : chkA GX 3000 381 ct_M_pushIn 105 ca_M_pushIn_105_0 = true := by decide +kernel
theorem kk_M_pushIn : Chk GX 3000 381 ct_M_pushIn := ⟨ke_M_pushIn, fun pc as h => (show BT.AllP (fun pc as => ∀ a ∈ as, chkA GX 3000 381 ct_M_pushIn pc a = true) ct_M_pushIn.cut from ⟨⟨List.forall_mem_cons.mpr ⟨ka_M_pushIn_105_0, fun a ha => by cases ha⟩, trivial⟩, trivial⟩).at h⟩
