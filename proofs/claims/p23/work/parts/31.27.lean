theorem kra_F_M_over_157_1 : chkA GXo 3000 299 ctr_F_M_over 157 car_F_M_over_157_1 = true := by decide +kernel
theorem kr_F_M_over : Chk GXo 3000 299 ctr_F_M_over := ⟨kre_F_M_over, fun pc as h => (show BT.AllP (fun pc as => ∀ a ∈ as, chkA GXo 3000 299 ctr_F_M_over pc a = true) ctr_F_M_over.cut from ⟨⟨List.forall_mem_cons.mpr ⟨kra_F_M_over_157_0, List.forall_mem_cons.mpr ⟨kra_F_M_over_157_1, fun a ha => by cases ha⟩⟩, trivial⟩, trivial⟩).at h⟩
theorem kre_M_number : chkE GXo 3000 348 ctr_M_number = true := by decide +kernel
theorem kra_M_number_0_0 : chkA GXo 3000 348 ctr_M_number 0 car_M_number_0_0 = true := by decide +kernel
theorem kra_M_number_0_1 : chkA GXo 3000 348 ctr_M_number 0 car_M_number_0_1 = true := by decide +kernel
theorem kra_M_number_0_2 : chkA GXo 3000 348 ctr_M_number 0 car_M_number_0_2 = true := by decide +kernel
theorem kra_M_number_0_3 : chkA GXo 3000 348 ctr_M_number 0 car_M_number_0_3 = true := by decide +kernel
theorem kra_M_number_0_4 : chkA GXo 3000 348 ctr_M_number 0 car_M_number_0_4 = true := by decide +kernel
theorem kra_M_number_0_5 : chkA GXo 3000 348 ctr_M_number 0 car_M_number_0_5 = true := by decide +kernel
theorem kra_M_number_0_6 : chkA GXo 3000 348 ctr_M_number 0 car_M_number_0_6 = true := by decide +kernel
theorem kra_M_number_0_7 : chkA GXo 3000 348 ctr_M_number 0 car_M_number_0_7 = true := by decide +kernel
theorem kra_M_number_0_8 : chkA GXo 3000 348 ctr_M_number 0 car_M_number_0_8 = true := by decide +kernel
theorem kra_M_number_0_9 : chkA GXo 3000 348 ctr_M_number 0 car_M_number_0_9 = true := by decide +kernel
theorem kra_M_number_0_10 : chkA GXo 3000 348 ctr_M_number 0 car_M_number_0_10 = true := by decide +kernel
theorem kra_M_number_143_0 : chkA GXo 3000 348 ctr_M_number 143 car_M_number_143_0 = true := by decide +kernel
theorem kra_M_number_143_1 : chkA GXo 3000 348 ctr_M_number 143 car_M_number_143_1 = true := by decide +kernel
theorem kr_M_number : Chk GXo 3000 348 ctr_M_number := ⟨kre_M_number, fun pc as h => (show BT.AllP (fun pc as => ∀ a ∈ as, chkA GXo 3000 348 ctr_M_number pc a = true) ctr_M_number.cut from ⟨⟨List.forall_mem_cons.mpr ⟨kra_M_number_0_0, List.forall_mem_cons.mpr ⟨kra_M_number_0_1, List.forall_mem_cons.mpr ⟨kra_M_number_0_2, List.forall_mem_cons.mpr ⟨kra_M_number_0_3, List.forall_mem_cons.mpr ⟨kra_M_number_0_4, List.forall_mem_cons.mpr ⟨kra_M_number_0_5, List.forall_mem_cons.mpr ⟨kra_M_number_0_6, List.forall_mem_cons.mpr ⟨kra_M_number_0_7, List.forall_mem_cons.mpr ⟨kra_M_number_0_8, List.forall_mem_cons.mpr ⟨kra_M_number_0_9, List.forall_mem_cons.mpr ⟨kra_M_number_0_10, fun a ha => by cases ha⟩⟩⟩⟩⟩⟩⟩⟩⟩⟩⟩, trivial⟩, ⟨List.forall_mem_cons.mpr ⟨kra_M_number_143_0, List.forall_mem_cons.mpr ⟨kra_M_number_143_1, fun a ha => by cases ha⟩⟩, trivial⟩, trivial⟩).at h⟩
