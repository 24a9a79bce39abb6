theorem kra_M_numbered_55_0 : chkA GXo 3000 353 ctr_M_numbered 55 car_M_numbered_55_0 = true := by decide +kernel
theorem kra_M_numbered_55_1 : chkA GXo 3000 353 ctr_M_numbered 55 car_M_numbered_55_1 = true := by decide +kernel
theorem kra_M_numbered_55_2 : chkA GXo 3000 353 ctr_M_numbered 55 car_M_numbered_55_2 = true := by decide +kernel
theorem kra_M_numbered_55_3 : chkA GXo 3000 353 ctr_M_numbered 55 car_M_numbered_55_3 = true := by decide +kernel
theorem kra_M_numbered_55_4 : chkA GXo 3000 353 ctr_M_numbered 55 car_M_numbered_55_4 = true := by decide +kernel
theorem kra_M_numbered_55_5 : chkA GXo 3000 353 ctr_M_numbered 55 car_M_numbered_55_5 = true := by decide +kernel
theorem kra_M_numbered_55_6 : chkA GXo 3000 353 ctr_M_numbered 55 car_M_numbered_55_6 = true := by decide +kernel
theorem kra_M_numbered_55_7 : chkA GXo 3000 353 ctr_M_numbered 55 car_M_numbered_55_7 = true := by decide +kernel
theorem kra_M_numbered_55_8 : chkA GXo 3000 353 ctr_M_numbered 55 car_M_numbered_55_8 = true := by decide +kernel
theorem kra_M_numbered_55_9 : chkA GXo 3000 353 ctr_M_numbered 55 car_M_numbered_55_9 = true := by decide +kernel
theorem kr_M_numbered : Chk GXo 3000 353 ctr_M_numbered := ⟨kre_M_numbered, fun pc as h => (show BT.AllP (fun pc as => ∀ a ∈ as, chkA GXo 3000 353 ctr_M_numbered pc a = true) ctr_M_numbered.cut from ⟨⟨List.forall_mem_cons.mpr ⟨kra_M_numbered_55_0, List.forall_mem_cons.mpr ⟨kra_M_numbered_55_1, List.forall_mem_cons.mpr ⟨kra_M_numbered_55_2, List.forall_mem_cons.mpr ⟨kra_M_numbered_55_3, List.forall_mem_cons.mpr ⟨kra_M_numbered_55_4, List.forall_mem_cons.mpr ⟨kra_M_numbered_55_5, List.forall_mem_cons.mpr ⟨kra_M_numbered_55_6, List.forall_mem_cons.mpr ⟨kra_M_numbered_55_7, List.forall_mem_cons.mpr ⟨kra_M_numbered_55_8, List.forall_mem_cons.mpr ⟨kra_M_numbered_55_9, fun a ha => by cases ha⟩⟩⟩⟩⟩⟩⟩⟩⟩⟩, trivial⟩, trivial⟩).at h⟩
theorem kre_M_reduce : chkE GXo 3000 355 ctr_M_reduce = true := by decide +kernel
theorem kra_M_reduce_0_0 : chkA GXo 3000 355 ctr_M_reduce 0 car_M_reduce_0_0 = true := by decide +kernel
theorem kra_M_reduce_0_1 : chkA GXo 3000 355 ctr_M_reduce 0 car_M_reduce_0_1 = true := by decide +kernel
theorem kr_M_reduce : Chk GXo 3000 355 ctr_M_reduce := ⟨kre_M_reduce, fun pc as h => (show BT.AllP (fun pc as => ∀ a ∈ as, chkA GXo 3000 355 ctr_M_reduce pc a = true) ctr_M_reduce.cut from ⟨⟨List.forall_mem_cons.mpr ⟨kra_M_reduce_0_0, List.forall_mem_cons.mpr ⟨kra_M_reduce_0_1, fun a ha => by cases ha⟩⟩, trivial⟩, trivial⟩).at h⟩
theorem kre_M_isFeature : chkE GXo 3000 359 ctr_M_isFeature = true := by decide +kernel
theorem kr_M_isFeature : Chk GXo 3000 359 ctr_M_isFeature := ⟨kre_M_isFeature, fun pc as h => (show BT.AllP (fun pc as => ∀ a ∈ as, chkA GXo 3000 359 ctr_M_isFeature pc a = true) ctr_M_isFeature.cut from trivial).at h⟩
theorem kre_M_wanted : chkE GXo 3000 362 ctr_M_wanted = true := by decide +kernel
theorem kra_M_wanted_1_0 : chkA GXo 3000 362 ctr_M_wanted 1 car_M_wanted_1_0 = true := by decide +kernel
theorem kra_M_wanted_1_1 : chkA GXo 3000 362 ctr_M_wanted 1 car_M_wanted_1_1 = true := by decide +kernel
theorem kra_M_wanted_1_2 : chkA GXo 3000 362 ctr_M_wanted 1 car_M_wanted_1_2 = true := by decide +kernel
theorem kra_M_wanted_1_3 : chkA GXo 3000 362 ctr_M_wanted 1 car_M_wanted_1_3 = true := by decide +kernel
theorem kra_M_wanted_1_4 : chkA GXo 3000 362 ctr_M_wanted 1 car_M_wanted_1_4 = true := by decide +kernel
