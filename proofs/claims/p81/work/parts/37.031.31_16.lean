theorem ka_M_reduce_0_0 : chkA GXL9 3000 355 ct_M_reduceL9 0 ca_M_reduce_0_0L9 = true := by decide +kernel
theorem kk_M_reduce : Chk GXL9 3000 355 ct_M_reduceL9 := ⟨ke_M_reduce, fun pc as h => (show BT.AllP (fun pc as => ∀ a ∈ as, chkA GXL9 3000 355 ct_M_reduceL9 pc a = true) ct_M_reduceL9.cut from ⟨⟨List.forall_mem_cons.mpr ⟨ka_M_reduce_0_0, fun a ha => by cases ha⟩, trivial⟩, trivial⟩).at h⟩
theorem ke_M_isFeature : chkE GXL9 3000 359 ct_M_isFeatureL9 = true := by decide +kernel
theorem kk_M_isFeature : Chk GXL9 3000 359 ct_M_isFeatureL9 := ⟨ke_M_isFeature, fun pc as h => (show BT.AllP (fun pc as => ∀ a ∈ as, chkA GXL9 3000 359 ct_M_isFeatureL9 pc a = true) ct_M_isFeatureL9.cut from trivial).at h⟩
theorem ke_M_wanted : chkE GXL9 3000 362 ct_M_wantedL9 = true := by decide +kernel
theorem ka_M_wanted_129_0 : chkA GXL9 3000 362 ct_M_wantedL9 129 ca_M_wanted_129_0L9 = true := by decide +kernel
theorem ka_M_wanted_198_0 : chkA GXL9 3000 362 ct_M_wantedL9 198 ca_M_wanted_198_0L9 = true := by decide +kernel
theorem ka_M_wanted_304_0 : chkA GXL9 3000 362 ct_M_wantedL9 304 ca_M_wanted_304_0L9 = true := by decide +kernel
theorem kk_M_wanted : Chk GXL9 3000 362 ct_M_wantedL9 := ⟨ke_M_wanted, fun pc as h => (show BT.AllP (fun pc as => ∀ a ∈ as, chkA GXL9 3000 362 ct_M_wantedL9 pc a = true) ct_M_wantedL9.cut from ⟨⟨List.forall_mem_cons.mpr ⟨ka_M_wanted_129_0, fun a ha => by cases ha⟩, trivial⟩, ⟨List.forall_mem_cons.mpr ⟨ka_M_wanted_198_0, fun a ha => by cases ha⟩, trivial⟩, ⟨List.forall_mem_cons.mpr ⟨ka_M_wanted_304_0, fun a ha => by cases ha⟩, trivial⟩, trivial⟩).at h⟩
