theorem ka1_M_wanted_129_0 : chkA GX1 3000 362 ct_M_wanted 129 ca_M_wanted_129_0 = true := by decide +kernel
theorem ka1_M_wanted_198_0 : chkA GX1 3000 362 ct_M_wanted 198 ca_M_wanted_198_0 = true := by decide +kernel
theorem ka1_M_wanted_304_0 : chkA GX1 3000 362 ct_M_wanted 304 ca_M_wanted_304_0 = true := by decide +kernel
theorem kk1_M_wanted : Chk GX1 3000 362 ct_M_wanted := ⟨ke1_M_wanted, fun pc as h => (show BT.AllP (fun pc as => ∀ a ∈ as, chkA GX1 3000 362 ct_M_wanted pc a = true) ct_M_wanted.cut from ⟨⟨List.forall_mem_cons.mpr ⟨ka1_M_wanted_129_0, fun a ha => by cases ha⟩, trivial⟩, ⟨List.forall_mem_cons.mpr ⟨ka1_M_wanted_198_0, fun a ha => by cases ha⟩, trivial⟩, ⟨List.forall_mem_cons.mpr ⟨ka1_M_wanted_304_0, fun a ha => by cases ha⟩, trivial⟩, trivial⟩).at h⟩
