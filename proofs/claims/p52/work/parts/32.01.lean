theorem ke_Po_readWho : chkE GX 3000 83 ct_Po_readWho = true := by decide +kernel
theorem ka_Po_readWho_27_0 : chkA GX 3000 83 ct_Po_readWho 27 ca_Po_readWho_27_0 = true := by decide +kernel
theorem ka_Po_readWho_27_1 : chkA GX 3000 83 ct_Po_readWho 27 ca_Po_readWho_27_1 = true := by decide +kernel
theorem kk_Po_readWho : Chk GX 3000 83 ct_Po_readWho := ⟨ke_Po_readWho, fun pc as h => (show BT.AllP (fun pc as => ∀ a ∈ as, chkA GX 3000 83 ct_Po_readWho pc a = true) ct_Po_readWho.cut from ⟨⟨List.forall_mem_cons.mpr ⟨ka_Po_readWho_27_0, List.forall_mem_cons.mpr ⟨ka_Po_readWho_27_1, fun a ha => by cases ha⟩⟩, trivial⟩, trivial⟩).at h⟩
