theorem ke_Po_readComparison : chkE GXL9 3000 97 ct_Po_readComparisonL9 = true := by decide +kernel
theorem kk_Po_readComparison : Chk GXL9 3000 97 ct_Po_readComparisonL9 := ⟨ke_Po_readComparison, fun pc as h => (show BT.AllP (fun pc as => ∀ a ∈ as, chkA GXL9 3000 97 ct_Po_readComparisonL9 pc a = true) ct_Po_readComparisonL9.cut from trivial).at h⟩
theorem ke_Po_readBothWays : chkE GXL9 3000 99 ct_Po_readBothWaysL9 = true := by decide +kernel
theorem ka_Po_readBothWays_68_0 : chkA GXL9 3000 99 ct_Po_readBothWaysL9 68 ca_Po_readBothWays_68_0L9 = true := by decide +kernel
theorem kk_Po_readBothWays : Chk GXL9 3000 99 ct_Po_readBothWaysL9 := ⟨ke_Po_readBothWays, fun pc as h => (show BT.AllP (fun pc as => ∀ a ∈ as, chkA GXL9 3000 99 ct_Po_readBothWaysL9 pc a = true) ct_Po_readBothWaysL9.cut from ⟨⟨List.forall_mem_cons.mpr ⟨ka_Po_readBothWays_68_0, fun a ha => by cases ha⟩, trivial⟩, trivial⟩).at h⟩
theorem ke_Po_readSuch : chkE GXL9 3000 100 ct_Po_readSuchL9 = true := by decide +kernel
theorem kk_Po_readSuch : Chk GXL9 3000 100 ct_Po_readSuchL9 := ⟨ke_Po_readSuch, fun pc as h => (show BT.AllP (fun pc as => ∀ a ∈ as, chkA GXL9 3000 100 ct_Po_readSuchL9 pc a = true) ct_Po_readSuchL9.cut from trivial).at h⟩
theorem ke_Po_readPart : chkE GXL9 3000 101 ct_Po_readPartL9 = true := by decide +kernel
theorem ka_Po_readPart_12_0 : chkA GXL9 3000 101 ct_Po_readPartL9 12 ca_Po_readPart_12_0L9 = true := by decide +kernel
theorem kk_Po_readPart : Chk GXL9 3000 101 ct_Po_readPartL9 := ⟨ke_Po_readPart, fun pc as h => (show BT.AllP (fun pc as => ∀ a ∈ as, chkA GXL9 3000 101 ct_Po_readPartL9 pc a = true) ct_Po_readPartL9.cut from ⟨⟨List.forall_mem_cons.mpr ⟨ka_Po_readPart_12_0, fun a ha => by cases ha⟩, trivial⟩, trivial⟩).at h⟩
theorem ke_Po_readCondition : chkE GXL9 3000 102 ct_Po_readConditionL9 = true := by decide +kernel
theorem ka_Po_readCondition_12_0 : chkA GXL9 3000 102 ct_Po_readConditionL9 12 ca_Po_readCondition_12_0L9 = true := by decide +kernel
theorem kk_Po_readCondition : Chk GXL9 3000 102 ct_Po_readConditionL9 := ⟨ke_Po_readCondition, fun pc as h => (show BT.AllP (fun pc as => ∀ a ∈ as, chkA GXL9 3000 102 ct_Po_readConditionL9 pc a = true) ct_Po_readConditionL9.cut from ⟨⟨List.forall_mem_cons.mpr ⟨ka_Po_readCondition_12_0, fun a ha => by cases ha⟩, trivial⟩, trivial⟩).at h⟩
theorem ke_Po_readRule : chkE GXL9 3000 103 ct_Po_readRuleL9 = true := by decide +kernel
theorem ka_Po_readRule_34_0 : chkA GXL9 3000 103 ct_Po_readRuleL9 34 ca_Po_readRule_34_0 = true := by decide +kernel
theorem ka_Po_readRule_76_0 : chkA GXL9 3000 103 ct_Po_readRuleL9 76 ca_Po_readRule_76_0 = true := by decide +kernel
theorem kk_Po_readRule : Chk GXL9 3000 103 ct_Po_readRuleL9 := ⟨ke_Po_readRule, fun pc as h => (show BT.AllP (fun pc as => ∀ a ∈ as, chkA GXL9 3000 103 ct_Po_readRuleL9 pc a = true) ct_Po_readRuleL9.cut from ⟨⟨List.forall_mem_cons.mpr ⟨ka_Po_readRule_34_0, fun a ha => by cases ha⟩, trivial⟩, ⟨List.forall_mem_cons.mpr ⟨ka_Po_readRule_76_0, fun a ha => by cases ha⟩, trivial⟩, trivial⟩).at h⟩
theorem ke_Po_read : chkE GXL9 3000 104 ct_Po_readL9 = true := by decide +kernel
