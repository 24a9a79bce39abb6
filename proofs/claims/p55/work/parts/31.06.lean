theorem ke_Po_readComparison : chkE GX 3000 97 ct_Po_readComparison = true := by decide +kernel
theorem kk_Po_readComparison : Chk GX 3000 97 ct_Po_readComparison := ⟨ke_Po_readComparison, fun pc as h => (show BT.AllP (fun pc as => ∀ a ∈ as, chkA GX 3000 97 ct_Po_readComparison pc a = true) ct_Po_readComparison.cut from trivial).at h⟩
theorem ke_Po_readBothWays : chkE GX 3000 99 ct_Po_readBothWays = true := by decide +kernel
theorem ka_Po_readBothWays_68_0 : chkA GX 3000 99 ct_Po_readBothWays 68 ca_Po_readBothWays_68_0 = true := by decide +kernel
theorem kk_Po_readBothWays : Chk GX 3000 99 ct_Po_readBothWays := ⟨ke_Po_readBothWays, fun pc as h => (show BT.AllP (fun pc as => ∀ a ∈ as, chkA GX 3000 99 ct_Po_readBothWays pc a = true) ct_Po_readBothWays.cut from ⟨⟨List.forall_mem_cons.mpr ⟨ka_Po_readBothWays_68_0, fun a ha => by cases ha⟩, trivial⟩, trivial⟩).at h⟩
theorem ke_Po_readSuch : chkE GX 3000 100 ct_Po_readSuch = true := by decide +kernel
theorem kk_Po_readSuch : Chk GX 3000 100 ct_Po_readSuch := ⟨ke_Po_readSuch, fun pc as h => (show BT.AllP (fun pc as => ∀ a ∈ as, chkA GX 3000 100 ct_Po_readSuch pc a = true) ct_Po_readSuch.cut from trivial).at h⟩
theorem ke_Po_readPart : chkE GX 3000 101 ct_Po_readPart = true := by decide +kernel
theorem ka_Po_readPart_12_0 : chkA GX 3000 101 ct_Po_readPart 12 ca_Po_readPart_12_0 = true := by decide +kernel
theorem kk_Po_readPart : Chk GX 3000 101 ct_Po_readPart := ⟨ke_Po_readPart, fun pc as h => (show BT.AllP (fun pc as => ∀ a ∈ as, chkA GX 3000 101 ct_Po_readPart pc a = true) ct_Po_readPart.cut from ⟨⟨List.forall_mem_cons.mpr ⟨ka_Po_readPart_12_0, fun a ha => by cases ha⟩, trivial⟩, trivial⟩).at h⟩
theorem ke_Po_readCondition : chkE GX 3000 102 ct_Po_readCondition = true := by decide +kernel
theorem ka_Po_readCondition_12_0 : chkA GX 3000 102 ct_Po_readCondition 12 ca_Po_readCondition_12_0 = true := by decide +kernel
theorem kk_Po_readCondition : Chk GX 3000 102 ct_Po_readCondition := ⟨ke_Po_readCondition, fun pc as h => (show BT.AllP (fun pc as => ∀ a ∈ as, chkA GX 3000 102 ct_Po_readCondition pc a = true) ct_Po_readCondition.cut from ⟨⟨List.forall_mem_cons.mpr ⟨ka_Po_readCondition_12_0, fun a ha => by cases ha⟩, trivial⟩, trivial⟩).at h⟩
theorem ke_Po_readRule : chkE GX 3000 103 ct_Po_readRule = true := by decide +kernel
theorem ka_Po_readRule_34_0 : chkA GX 3000 103 ct_Po_readRule 34 ca_Po_readRule_34_0 = true := by decide +kernel
theorem ka_Po_readRule_76_0 : chkA GX 3000 103 ct_Po_readRule 76 ca_Po_readRule_76_0 = true := by decide +kernel
theorem kk_Po_readRule : Chk GX 3000 103 ct_Po_readRule := ⟨ke_Po_readRule, fun pc as h => (show BT.AllP (fun pc as => ∀ a ∈ as, chkA GX 3000 103 ct_Po_readRule pc a = true) ct_Po_readRule.cut from ⟨⟨List.forall_mem_cons.mpr ⟨ka_Po_readRule_34_0, fun a ha => by cases ha⟩, trivial⟩, ⟨List.forall_mem_cons.mpr ⟨ka_Po_readRule_76_0, fun a ha => by cases ha⟩, trivial⟩, trivial⟩).at h⟩
theorem ke_Po_read : chkE GX 3000 104 ct_Po_read = true := by decide +kernel
