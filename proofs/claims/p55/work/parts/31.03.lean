theorem ka_Po_readWho_27_1 : chkA GX 3000 83 ct_Po_readWho 27 ca_Po_readWho_27_1 = true := by decide +kernel
theorem kk_Po_readWho : Chk GX 3000 83 ct_Po_readWho := ⟨ke_Po_readWho, fun pc as h => (show BT.AllP (fun pc as => ∀ a ∈ as, chkA GX 3000 83 ct_Po_readWho pc a = true) ct_Po_readWho.cut from ⟨⟨List.forall_mem_cons.mpr ⟨ka_Po_readWho_27_0, List.forall_mem_cons.mpr ⟨ka_Po_readWho_27_1, fun a ha => by cases ha⟩⟩, trivial⟩, trivial⟩).at h⟩
theorem ke_Po_readAct : chkE GX 3000 85 ct_Po_readAct = true := by decide +kernel
theorem kk_Po_readAct : Chk GX 3000 85 ct_Po_readAct := ⟨ke_Po_readAct, fun pc as h => (show BT.AllP (fun pc as => ∀ a ∈ as, chkA GX 3000 85 ct_Po_readAct pc a = true) ct_Po_readAct.cut from trivial).at h⟩
theorem ke_Po_readThing : chkE GX 3000 87 ct_Po_readThing = true := by decide +kernel
theorem kk_Po_readThing : Chk GX 3000 87 ct_Po_readThing := ⟨ke_Po_readThing, fun pc as h => (show BT.AllP (fun pc as => ∀ a ∈ as, chkA GX 3000 87 ct_Po_readThing pc a = true) ct_Po_readThing.cut from trivial).at h⟩
