theorem ka_M_reduce_0_0 : chkA GX 3000 355 ct_M_reduce 0 ca_M_reduce_0_0 = true := by decide +kernel
theorem kk_M_reduce : Chk GX 3000 355 ct_M_reduce := ⟨ke_M_reduce, fun pc as h => (show BT.AllP (fun pc as => ∀ a ∈ as, chkA GX 3000 355 ct_M_reduce pc a = true) ct_M_reduce.cut from ⟨⟨List.forall_mem_cons.mpr ⟨ka_M_reduce_0_0, fun a ha => by cases ha⟩, trivial⟩, trivial⟩).at h⟩
theorem ke_M_isFeature : chkE GX 3000 359 ct_M_isFeature = true := by decide +kernel
theorem kk_M_isFeature : Chk GX 3000 359 ct_M_isFeature := ⟨ke_M_isFeature, fun pc as h => (show BT.AllP (fun pc as => ∀ a ∈ as, chkA GX 3000 359 ct_M_isFeature pc a = true) ct_M_isFeature.cut from trivial).at h⟩
theorem ke_M_wanted : chkE GX 3000 362 ct_M_wanted = true := by decide +kernel
theorem ka_M_wanted_129_0 : chkA GX 3000 362 ct_M_wanted 129 ca_M_wanted_129_0 = true := by decide +kernel
theorem ka_M_wanted_198_0 : chkA GX 3000 362 ct_M_wanted 198 ca_M_wanted_198_0 = true := by decide +kernel
theorem ka_M_wanted_304_0 : chkA GX 3000 362 ct_M_wanted 304 ca_M_wanted_304_0 = true := by decide +kernel
theorem kk_M_wanted : Chk GX 3000 362 ct_M_wanted := ⟨ke_M_wanted, fun pc as h => (show BT.AllP (fun pc as => ∀ a ∈ as, chkA GX 3000 362 ct_M_wanted pc a = true) ct_M_wanted.cut from ⟨⟨List.forall_mem_cons.mpr ⟨ka_M_wanted_129_0, fun a ha => by cases ha⟩, trivial⟩, ⟨List.forall_mem_cons.mpr ⟨ka_M_wanted_198_0, fun a ha => by cases ha⟩, trivial⟩, ⟨List.forall_mem_cons.mpr ⟨ka_M_wanted_304_0, fun a ha => by cases ha⟩, trivial⟩, trivial⟩).at h⟩
