theorem ke_Po_read : chkE GX 3000 104 ct_Po_read = true := by decide +kernel
theorem ka_Po_read_40_0 : chkA GX 3000 104 ct_Po_read 40 ca_Po_read_40_0 = true := by decide +kernel
theorem kk_Po_read : Chk GX 3000 104 ct_Po_read := ⟨ke_Po_read, fun pc as h => (show BT.AllP (fun pc as => ∀ a ∈ as, chkA GX 3000 104 ct_Po_read pc a = true) ct_Po_read.cut from ⟨⟨List.forall_mem_cons.mpr ⟨ka_Po_read_40_0, fun a ha => by cases ha⟩, trivial⟩, trivial⟩).at h⟩
