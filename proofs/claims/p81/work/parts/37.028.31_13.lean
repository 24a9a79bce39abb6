theorem ke_M_overL9 : chkE GXL9 3000 299 ct_M_overL9 = true := by decide +kernel
theorem ka_M_over_157_0L9 : chkA GXL9 3000 299 ct_M_overL9 157 ca_M_over_157_0L9 = true := by decide +kernel
theorem ka_M_over_157_1L9 : chkA GXL9 3000 299 ct_M_overL9 157 ca_M_over_157_1L9 = true := by decide +kernel
theorem kk_M_overL9 : Chk GXL9 3000 299 ct_M_overL9 := ⟨ke_M_overL9, fun pc as h => (show BT.AllP (fun pc as => ∀ a ∈ as, chkA GXL9 3000 299 ct_M_overL9 pc a = true) ct_M_overL9.cut from ⟨⟨List.forall_mem_cons.mpr ⟨ka_M_over_157_0L9, List.forall_mem_cons.mpr ⟨ka_M_over_157_1L9, fun a ha => by cases ha⟩⟩, trivial⟩, trivial⟩).at h⟩
