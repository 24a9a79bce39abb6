theorem kra_M_reduce_0_1 : chkA GXo 3000 355 ctr_M_reduce 0 car_M_reduce_0_1 = true := by decide +kernel
theorem kr_M_reduce : Chk GXo 3000 355 ctr_M_reduce := ⟨kre_M_reduce, fun pc as h => (show BT.AllP (fun pc as => ∀ a ∈ as, chkA GXo 3000 355 ctr_M_reduce pc a = true) ctr_M_reduce.cut from ⟨⟨List.forall_mem_cons.mpr ⟨kra_M_reduce_0_0, List.forall_mem_cons.mpr ⟨kra_M_reduce_0_1, fun a ha => by cases ha⟩⟩, trivial⟩, trivial⟩).at h⟩
theorem kre_M_isFeature : chkE GXo 3000 359 ctr_M_isFeature = true := by decide +kernel
theorem kr_M_isFeature : Chk GXo 3000 359 ctr_M_isFeature := ⟨kre_M_isFeature, fun pc as h => (show BT.AllP (fun pc as => ∀ a ∈ as, chkA GXo 3000 359 ctr_M_isFeature pc a = true) ctr_M_isFeature.cut from trivial).at h⟩
theorem kre_M_wanted : chkE GXo 3000 362 ctr_M_wanted = true := by decide +kernel
theorem kra_M_wanted_1_0 : chkA GXo 3000 362 ctr_M_wanted 1 car_M_wanted_1_0 = true := by decide +kernel
theorem kra_M_wanted_1_1 : chkA GXo 3000 362 ctr_M_wanted 1 car_M_wanted_1_1 = true := by decide +kernel
theorem kra_M_wanted_1_2 : chkA GXo 3000 362 ctr_M_wanted 1 car_M_wanted_1_2 = true := by decide +kernel
theorem kra_M_wanted_1_3 : chkA GXo 3000 362 ctr_M_wanted 1 car_M_wanted_1_3 = true := by decide +kernel
