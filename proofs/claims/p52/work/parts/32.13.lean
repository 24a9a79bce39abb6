theorem ke_Po_readPart : chkE GX 3000 101 ct_Po_readPart = true := by decide +kernel
theorem ka_Po_readPart_12_0 : chkA GX 3000 101 ct_Po_readPart 12 ca_Po_readPart_12_0 = true := by decide +kernel
theorem kk_Po_readPart : Chk GX 3000 101 ct_Po_readPart := ⟨ke_Po_readPart, fun pc as h => (show BT.AllP (fun pc as => ∀ a ∈ as, chkA GX 3000 101 ct_Po_readPart pc a = true) ct_Po_readPart.cut from ⟨⟨List.forall_mem_cons.mpr ⟨ka_Po_readPart_12_0, fun a ha => by cases ha⟩, trivial⟩, trivial⟩).at h⟩
