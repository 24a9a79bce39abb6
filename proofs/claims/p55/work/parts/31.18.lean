theorem ka_M_goesOn_190_0 : chkA GX 3000 367 ct_M_goesOn 190 ca_M_goesOn_190_0 = true := by decide +kernel
theorem ka_M_goesOn_303_0 : chkA GX 3000 367 ct_M_goesOn 303 ca_M_goesOn_303_0 = true := by decide +kernel
theorem ka_M_goesOn_403_0 : chkA GX 3000 367 ct_M_goesOn 403 ca_M_goesOn_403_0 = true := by decide +kernel
theorem ka_M_goesOn_448_0 : chkA GX 3000 367 ct_M_goesOn 448 ca_M_goesOn_448_0 = true := by decide +kernel
theorem kk_M_goesOn : Chk GX 3000 367 ct_M_goesOn := ⟨ke_M_goesOn, fun pc as h => (show BT.AllP (fun pc as => ∀ a ∈ as, chkA GX 3000 367 ct_M_goesOn pc a = true) ct_M_goesOn.cut from ⟨⟨List.forall_mem_cons.mpr ⟨ka_M_goesOn_105_0, fun a ha => by cases ha⟩, List.forall_mem_cons.mpr ⟨ka_M_goesOn_190_0, fun a ha => by cases ha⟩, trivial⟩, ⟨List.forall_mem_cons.mpr ⟨ka_M_goesOn_303_0, fun a ha => by cases ha⟩, List.forall_mem_cons.mpr ⟨ka_M_goesOn_403_0, fun a ha => by cases ha⟩, trivial⟩, ⟨List.forall_mem_cons.mpr ⟨ka_M_goesOn_448_0, fun a ha => by cases ha⟩, trivial⟩, trivial⟩).at h⟩
theorem ke_M_condition : chkE GX 3000 368 ct_M_condition = true := by decide +kernel
theorem ka_M_condition_55_0 : chkA GX 3000 368 ct_M_condition 55 ca_M_condition_55_0 = true := by decide +kernel
theorem ka_M_condition_55_1 : chkA GX 3000 368 ct_M_condition 55 ca_M_condition_55_1 = true := by decide +kernel
theorem ka_M_condition_55_2 : chkA GX 3000 368 ct_M_condition 55 ca_M_condition_55_2 = true := by decide +kernel
theorem kk_M_condition : Chk GX 3000 368 ct_M_condition := ⟨ke_M_condition, fun pc as h => (show BT.AllP (fun pc as => ∀ a ∈ as, chkA GX 3000 368 ct_M_condition pc a = true) ct_M_condition.cut from ⟨⟨List.forall_mem_cons.mpr ⟨ka_M_condition_55_0, List.forall_mem_cons.mpr ⟨ka_M_condition_55_1, List.forall_mem_cons.mpr ⟨ka_M_condition_55_2, fun a ha => by cases ha⟩⟩⟩, trivial⟩, trivial⟩).at h⟩
