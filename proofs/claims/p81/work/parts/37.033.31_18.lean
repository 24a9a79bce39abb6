theorem ka_M_goesOn_190_0 : chkA GXL9 3000 367 ct_M_goesOnL9 190 ca_M_goesOn_190_0L9 = true := by decide +kernel
theorem ka_M_goesOn_303_0 : chkA GXL9 3000 367 ct_M_goesOnL9 303 ca_M_goesOn_303_0L9 = true := by decide +kernel
theorem ka_M_goesOn_403_0 : chkA GXL9 3000 367 ct_M_goesOnL9 403 ca_M_goesOn_403_0L9 = true := by decide +kernel
theorem ka_M_goesOn_448_0 : chkA GXL9 3000 367 ct_M_goesOnL9 448 ca_M_goesOn_448_0L9 = true := by decide +kernel
theorem kk_M_goesOn : Chk GXL9 3000 367 ct_M_goesOnL9 := ⟨ke_M_goesOn, fun pc as h => (show BT.AllP (fun pc as => ∀ a ∈ as, chkA GXL9 3000 367 ct_M_goesOnL9 pc a = true) ct_M_goesOnL9.cut from ⟨⟨List.forall_mem_cons.mpr ⟨ka_M_goesOn_105_0, fun a ha => by cases ha⟩, List.forall_mem_cons.mpr ⟨ka_M_goesOn_190_0, fun a ha => by cases ha⟩, trivial⟩, ⟨List.forall_mem_cons.mpr ⟨ka_M_goesOn_303_0, fun a ha => by cases ha⟩, List.forall_mem_cons.mpr ⟨ka_M_goesOn_403_0, fun a ha => by cases ha⟩, trivial⟩, ⟨List.forall_mem_cons.mpr ⟨ka_M_goesOn_448_0, fun a ha => by cases ha⟩, trivial⟩, trivial⟩).at h⟩
theorem ke_M_condition : chkE GXL9 3000 368 ct_M_conditionL9 = true := by decide +kernel
theorem ka_M_condition_55_0 : chkA GXL9 3000 368 ct_M_conditionL9 55 ca_M_condition_55_0 = true := by decide +kernel
theorem ka_M_condition_55_1 : chkA GXL9 3000 368 ct_M_conditionL9 55 ca_M_condition_55_1 = true := by decide +kernel
theorem ka_M_condition_55_2 : chkA GXL9 3000 368 ct_M_conditionL9 55 ca_M_condition_55_2L9 = true := by decide +kernel
theorem kk_M_condition : Chk GXL9 3000 368 ct_M_conditionL9 := ⟨ke_M_condition, fun pc as h => (show BT.AllP (fun pc as => ∀ a ∈ as, chkA GXL9 3000 368 ct_M_conditionL9 pc a = true) ct_M_conditionL9.cut from ⟨⟨List.forall_mem_cons.mpr ⟨ka_M_condition_55_0, List.forall_mem_cons.mpr ⟨ka_M_condition_55_1, List.forall_mem_cons.mpr ⟨ka_M_condition_55_2, fun a ha => by cases ha⟩⟩⟩, trivial⟩, trivial⟩).at h⟩
