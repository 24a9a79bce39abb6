theorem ke_M_over : chkE GX 3000 299 ct_M_over = true := by decide +kernel
theorem ka_M_over_157_0 : chkA GX 3000 299 ct_M_over 157 ca_M_over_157_0 = true := by decide +kernel
theorem ka_M_over_157_1 : chkA GX 3000 299 ct_M_over 157 ca_M_over_157_1 = true := by decide +kernel
theorem kk_M_over : Chk GX 3000 299 ct_M_over := ⟨ke_M_over, fun pc as h => (show BT.AllP (fun pc as => ∀ a ∈ as, chkA GX 3000 299 ct_M_over pc a = true) ct_M_over.cut from ⟨⟨List.forall_mem_cons.mpr ⟨ka_M_over_157_0, List.forall_mem_cons.mpr ⟨ka_M_over_157_1, fun a ha => by cases ha⟩⟩, trivial⟩, trivial⟩).at h⟩
