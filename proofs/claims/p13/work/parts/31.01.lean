theorem ke_Po_splitSign : chkE GX 3000 72 ct_Po_splitSign = true := by decide +kernel
theorem kk_Po_splitSign : Chk GX 3000 72 ct_Po_splitSign := ⟨ke_Po_splitSign, fun pc as h => (show BT.AllP (fun pc as => ∀ a ∈ as, chkA GX 3000 72 ct_Po_splitSign pc a = true) ct_Po_splitSign.cut from trivial).at h⟩
theorem ke_Po_splitOff : chkE GX 3000 73 ct_Po_splitOff = true := by decide +kernel
theorem ka_Po_splitOff_34_0 : chkA GX 3000 73 ct_Po_splitOff 34 ca_Po_splitOff_34_0 = true := by decide +kernel
theorem kk_Po_splitOff : Chk GX 3000 73 ct_Po_splitOff := ⟨ke_Po_splitOff, fun pc as h => (show BT.AllP (fun pc as => ∀ a ∈ as, chkA GX 3000 73 ct_Po_splitOff pc a = true) ct_Po_splitOff.cut from ⟨⟨List.forall_mem_cons.mpr ⟨ka_Po_splitOff_34_0, fun a ha => by cases ha⟩, trivial⟩, trivial⟩).at h⟩
theorem ke_Po_split : chkE GX 3000 74 ct_Po_split = true := by decide +kernel
theorem ka_Po_split_9_0 : chkA GX 3000 74 ct_Po_split 9 ca_Po_split_9_0 = true := by decide +kernel
theorem kk_Po_split : Chk GX 3000 74 ct_Po_split := ⟨ke_Po_split, fun pc as h => (show BT.AllP (fun pc as => ∀ a ∈ as, chkA GX 3000 74 ct_Po_split pc a = true) ct_Po_split.cut from ⟨⟨List.forall_mem_cons.mpr ⟨ka_Po_split_9_0, fun a ha => by cases ha⟩, trivial⟩, trivial⟩).at h⟩
