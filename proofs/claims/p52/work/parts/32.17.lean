theorem ke_M_reduce : chkE GX 3000 355 ct_M_reduce = true := by decide +kernel
theorem ka_M_reduce_0_0 : chkA GX 3000 355 ct_M_reduce 0 ca_M_reduce_0_0 = true := by decide +kernel
theorem kk_M_reduce : Chk GX 3000 355 ct_M_reduce := ⟨ke_M_reduce, fun pc as h => (show BT.AllP (fun pc as => ∀ a ∈ as, chkA GX 3000 355 ct_M_reduce pc a = true) ct_M_reduce.cut from ⟨⟨List.forall_mem_cons.mpr ⟨ka_M_reduce_0_0, fun a ha => by cases ha⟩, trivial⟩, trivial⟩).at h⟩
