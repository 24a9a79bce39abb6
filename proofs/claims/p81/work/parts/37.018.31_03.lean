theorem ka_Po_readWho_27_1 : chkA GXL9 3000 83 ct_Po_readWhoL9 27 ca_Po_readWho_27_1L9 = true := by decide +kernel
theorem kk_Po_readWho : Chk GXL9 3000 83 ct_Po_readWhoL9 := ⟨ke_Po_readWho, fun pc as h => (show BT.AllP (fun pc as => ∀ a ∈ as, chkA GXL9 3000 83 ct_Po_readWhoL9 pc a = true) ct_Po_readWhoL9.cut from ⟨⟨List.forall_mem_cons.mpr ⟨ka_Po_readWho_27_0, List.forall_mem_cons.mpr ⟨ka_Po_readWho_27_1, fun a ha => by cases ha⟩⟩, trivial⟩, trivial⟩).at h⟩
theorem ke_Po_readAct : chkE GXL9 3000 85 ct_Po_readActL9 = true := by decide +kernel
theorem kk_Po_readAct : Chk GXL9 3000 85 ct_Po_readActL9 := ⟨ke_Po_readAct, fun pc as h => (show BT.AllP (fun pc as => ∀ a ∈ as, chkA GXL9 3000 85 ct_Po_readActL9 pc a = true) ct_Po_readActL9.cut from trivial).at h⟩
theorem ke_Po_readThing : chkE GXL9 3000 87 ct_Po_readThingL9 = true := by decide +kernel
theorem kk_Po_readThing : Chk GXL9 3000 87 ct_Po_readThingL9 := ⟨ke_Po_readThing, fun pc as h => (show BT.AllP (fun pc as => ∀ a ∈ as, chkA GXL9 3000 87 ct_Po_readThingL9 pc a = true) ct_Po_readThingL9.cut from trivial).at h⟩
