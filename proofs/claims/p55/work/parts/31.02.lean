theorem ka_Po_splitOff_34_0 : chkA GX 3000 73 ct_Po_splitOff 34 ca_Po_splitOff_34_0 = true := by decide +kernel
theorem kk_Po_splitOff : Chk GX 3000 73 ct_Po_splitOff := ⟨ke_Po_splitOff, fun pc as h => (show BT.AllP (fun pc as => ∀ a ∈ as, chkA GX 3000 73 ct_Po_splitOff pc a = true) ct_Po_splitOff.cut from ⟨⟨List.forall_mem_cons.mpr ⟨ka_Po_splitOff_34_0, fun a ha => by cases ha⟩, trivial⟩, trivial⟩).at h⟩
theorem ke_Po_split : chkE GX 3000 74 ct_Po_split = true := by decide +kernel
theorem ka_Po_split_9_0 : chkA GX 3000 74 ct_Po_split 9 ca_Po_split_9_0 = true := by decide +kernel
theorem kk_Po_split : Chk GX 3000 74 ct_Po_split := ⟨ke_Po_split, fun pc as h => (show BT.AllP (fun pc as => ∀ a ∈ as, chkA GX 3000 74 ct_Po_split pc a = true) ct_Po_split.cut from ⟨⟨List.forall_mem_cons.mpr ⟨ka_Po_split_9_0, fun a ha => by cases ha⟩, trivial⟩, trivial⟩).at h⟩
theorem ke_Po_isWord : chkE GX 3000 79 ct_Po_isWord = true := by decide +kernel
theorem kk_Po_isWord : Chk GX 3000 79 ct_Po_isWord := ⟨ke_Po_isWord, fun pc as h => (show BT.AllP (fun pc as => ∀ a ∈ as, chkA GX 3000 79 ct_Po_isWord pc a = true) ct_Po_isWord.cut from trivial).at h⟩
theorem ke_Po_readEffect : chkE GX 3000 81 ct_Po_readEffect = true := by decide +kernel
theorem kk_Po_readEffect : Chk GX 3000 81 ct_Po_readEffect := ⟨ke_Po_readEffect, fun pc as h => (show BT.AllP (fun pc as => ∀ a ∈ as, chkA GX 3000 81 ct_Po_readEffect pc a = true) ct_Po_readEffect.cut from trivial).at h⟩
theorem ke_Po_numberBehind : chkE GX 3000 82 ct_Po_numberBehind = true := by decide +kernel
theorem ka_Po_numberBehind_89_0 : chkA GX 3000 82 ct_Po_numberBehind 89 ca_Po_numberBehind_89_0 = true := by decide +kernel
theorem kk_Po_numberBehind : Chk GX 3000 82 ct_Po_numberBehind := ⟨ke_Po_numberBehind, fun pc as h => (show BT.AllP (fun pc as => ∀ a ∈ as, chkA GX 3000 82 ct_Po_numberBehind pc a = true) ct_Po_numberBehind.cut from ⟨⟨List.forall_mem_cons.mpr ⟨ka_Po_numberBehind_89_0, fun a ha => by cases ha⟩, trivial⟩, trivial⟩).at h⟩
theorem ke_Po_readWho : chkE GX 3000 83 ct_Po_readWho = true := by decide +kernel
theorem ka_Po_readWho_27_0 : chkA GX 3000 83 ct_Po_readWho 27 ca_Po_readWho_27_0 = true := by decide +kernel
