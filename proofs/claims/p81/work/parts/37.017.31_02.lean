theorem ka_Po_splitOff_34_0 : chkA GXL9 3000 73 ct_Po_splitOffL9 34 ca_Po_splitOff_34_0L9 = true := by decide +kernel
theorem kk_Po_splitOff : Chk GXL9 3000 73 ct_Po_splitOffL9 := ⟨ke_Po_splitOff, fun pc as h => (show BT.AllP (fun pc as => ∀ a ∈ as, chkA GXL9 3000 73 ct_Po_splitOffL9 pc a = true) ct_Po_splitOffL9.cut from ⟨⟨List.forall_mem_cons.mpr ⟨ka_Po_splitOff_34_0, fun a ha => by cases ha⟩, trivial⟩, trivial⟩).at h⟩
theorem ke_Po_split : chkE GXL9 3000 74 ct_Po_splitL9 = true := by decide +kernel
theorem ka_Po_split_9_0 : chkA GXL9 3000 74 ct_Po_splitL9 9 ca_Po_split_9_0L9 = true := by decide +kernel
theorem kk_Po_split : Chk GXL9 3000 74 ct_Po_splitL9 := ⟨ke_Po_split, fun pc as h => (show BT.AllP (fun pc as => ∀ a ∈ as, chkA GXL9 3000 74 ct_Po_splitL9 pc a = true) ct_Po_splitL9.cut from ⟨⟨List.forall_mem_cons.mpr ⟨ka_Po_split_9_0, fun a ha => by cases ha⟩, trivial⟩, trivial⟩).at h⟩
theorem ke_Po_isWord : chkE GXL9 3000 79 ct_Po_isWordL9 = true := by decide +kernel
theorem kk_Po_isWord : Chk GXL9 3000 79 ct_Po_isWordL9 := ⟨ke_Po_isWord, fun pc as h => (show BT.AllP (fun pc as => ∀ a ∈ as, chkA GXL9 3000 79 ct_Po_isWordL9 pc a = true) ct_Po_isWordL9.cut from trivial).at h⟩
theorem ke_Po_readEffect : chkE GXL9 3000 81 ct_Po_readEffectL9 = true := by decide +kernel
theorem kk_Po_readEffect : Chk GXL9 3000 81 ct_Po_readEffectL9 := ⟨ke_Po_readEffect, fun pc as h => (show BT.AllP (fun pc as => ∀ a ∈ as, chkA GXL9 3000 81 ct_Po_readEffectL9 pc a = true) ct_Po_readEffectL9.cut from trivial).at h⟩
theorem ke_Po_numberBehind : chkE GXL9 3000 82 ct_Po_numberBehindL9 = true := by decide +kernel
theorem ka_Po_numberBehind_89_0 : chkA GXL9 3000 82 ct_Po_numberBehindL9 89 ca_Po_numberBehind_89_0 = true := by decide +kernel
theorem kk_Po_numberBehind : Chk GXL9 3000 82 ct_Po_numberBehindL9 := ⟨ke_Po_numberBehind, fun pc as h => (show BT.AllP (fun pc as => ∀ a ∈ as, chkA GXL9 3000 82 ct_Po_numberBehindL9 pc a = true) ct_Po_numberBehindL9.cut from ⟨⟨List.forall_mem_cons.mpr ⟨ka_Po_numberBehind_89_0, fun a ha => by cases ha⟩, trivial⟩, trivial⟩).at h⟩
theorem ke_Po_readWho : chkE GXL9 3000 83 ct_Po_readWhoL9 = true := by decide +kernel
theorem ka_Po_readWho_27_0 : chkA GXL9 3000 83 ct_Po_readWhoL9 27 ca_Po_readWho_27_0L9 = true := by decide +kernel
