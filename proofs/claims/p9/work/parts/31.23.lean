theorem ka_M_token_85_1 : chkA GX 3000 350 ct_M_token 85 ca_M_token_85_1 = true := by decide +kernel
theorem kk_M_token : Chk GX 3000 350 ct_M_token := ⟨ke_M_token, fun pc as h => (show BT.AllP (fun pc as => ∀ a ∈ as, chkA GX 3000 350 ct_M_token pc a = true) ct_M_token.cut from ⟨⟨List.forall_mem_cons.mpr ⟨ka_M_token_0_0, fun a ha => by cases ha⟩, trivial⟩, ⟨List.forall_mem_cons.mpr ⟨ka_M_token_85_0, List.forall_mem_cons.mpr ⟨ka_M_token_85_1, fun a ha => by cases ha⟩⟩, trivial⟩, trivial⟩).at h⟩
theorem ke_M_numbered : chkE GX 3000 353 ct_M_numbered = true := by decide +kernel
theorem ka_M_numbered_55_0 : chkA GX 3000 353 ct_M_numbered 55 ca_M_numbered_55_0 = true := by decide +kernel
theorem kk_M_numbered : Chk GX 3000 353 ct_M_numbered := ⟨ke_M_numbered, fun pc as h => (show BT.AllP (fun pc as => ∀ a ∈ as, chkA GX 3000 353 ct_M_numbered pc a = true) ct_M_numbered.cut from ⟨⟨List.forall_mem_cons.mpr ⟨ka_M_numbered_55_0, fun a ha => by cases ha⟩, trivial⟩, trivial⟩).at h⟩
theorem ke_M_isFeature : chkE GX 3000 359 ct_M_isFeature = true := by decide +kernel
theorem kk_M_isFeature : Chk GX 3000 359 ct_M_isFeature := ⟨ke_M_isFeature, fun pc as h => (show BT.AllP (fun pc as => ∀ a ∈ as, chkA GX 3000 359 ct_M_isFeature pc a = true) ct_M_isFeature.cut from trivial).at h⟩
theorem ke_M_condition : chkE GX 3000 368 ct_M_condition = true := by decide +kernel
theorem ka_M_condition_55_0 : chkA GX 3000 368 ct_M_condition 55 ca_M_condition_55_0 = true := by decide +kernel
theorem ka_M_condition_55_1 : chkA GX 3000 368 ct_M_condition 55 ca_M_condition_55_1 = true := by decide +kernel
theorem ka_M_condition_55_2 : chkA GX 3000 368 ct_M_condition 55 ca_M_condition_55_2 = true := by decide +kernel
theorem kk_M_condition : Chk GX 3000 368 ct_M_condition := ⟨ke_M_condition, fun pc as h => (show BT.AllP (fun pc as => ∀ a ∈ as, chkA GX 3000 368 ct_M_condition pc a = true) ct_M_condition.cut from ⟨⟨List.forall_mem_cons.mpr ⟨ka_M_condition_55_0, List.forall_mem_cons.mpr ⟨ka_M_condition_55_1, List.forall_mem_cons.mpr ⟨ka_M_condition_55_2, fun a ha => by cases ha⟩⟩⟩, trivial⟩, trivial⟩).at h⟩
theorem ke_M_isWho : chkE GX 3000 371 ct_M_isWho = true := by decide +kernel
theorem kk_M_isWho : Chk GX 3000 371 ct_M_isWho := ⟨ke_M_isWho, fun pc as h => (show BT.AllP (fun pc as => ∀ a ∈ as, chkA GX 3000 371 ct_M_isWho pc a = true) ct_M_isWho.cut from trivial).at h⟩
theorem ke_M_isAct : chkE GX 3000 372 ct_M_isAct = true := by decide +kernel
theorem kk_M_isAct : Chk GX 3000 372 ct_M_isAct := ⟨ke_M_isAct, fun pc as h => (show BT.AllP (fun pc as => ∀ a ∈ as, chkA GX 3000 372 ct_M_isAct pc a = true) ct_M_isAct.cut from trivial).at h⟩
theorem ke_M_isRuleThing : chkE GX 3000 373 ct_M_isRuleThing = true := by decide +kernel
theorem kk_M_isRuleThing : Chk GX 3000 373 ct_M_isRuleThing := ⟨ke_M_isRuleThing, fun pc as h => (show BT.AllP (fun pc as => ∀ a ∈ as, chkA GX 3000 373 ct_M_isRuleThing pc a = true) ct_M_isRuleThing.cut from trivial).at h⟩
theorem ke_M_policy : chkE GX 3000 375 ct_M_policy = true := by decide +kernel
theorem ka_M_policy_60_0 : chkA GX 3000 375 ct_M_policy 60 ca_M_policy_60_0 = true := by decide +kernel
