theorem kre_M_sign : chkE GXo 3000 349 ctr_M_sign = true := by decide +kernel
theorem kr_M_sign : Chk GXo 3000 349 ctr_M_sign := ⟨kre_M_sign, fun pc as h => (show BT.AllP (fun pc as => ∀ a ∈ as, chkA GXo 3000 349 ctr_M_sign pc a = true) ctr_M_sign.cut from trivial).at h⟩
theorem kre_M_token : chkE GXo 3000 350 ctr_M_token = true := by decide +kernel
theorem kra_M_token_0_0 : chkA GXo 3000 350 ctr_M_token 0 car_M_token_0_0 = true := by decide +kernel
theorem kra_M_token_85_0 : chkA GXo 3000 350 ctr_M_token 85 car_M_token_85_0 = true := by decide +kernel
theorem kra_M_token_85_1 : chkA GXo 3000 350 ctr_M_token 85 car_M_token_85_1 = true := by decide +kernel
theorem kra_M_token_85_2 : chkA GXo 3000 350 ctr_M_token 85 car_M_token_85_2 = true := by decide +kernel
theorem kra_M_token_85_3 : chkA GXo 3000 350 ctr_M_token 85 car_M_token_85_3 = true := by decide +kernel
theorem kra_M_token_85_4 : chkA GXo 3000 350 ctr_M_token 85 car_M_token_85_4 = true := by decide +kernel
theorem kra_M_token_85_5 : chkA GXo 3000 350 ctr_M_token 85 car_M_token_85_5 = true := by decide +kernel
theorem kra_M_token_85_6 : chkA GXo 3000 350 ctr_M_token 85 car_M_token_85_6 = true := by decide +kernel
theorem kra_M_token_85_7 : chkA GXo 3000 350 ctr_M_token 85 car_M_token_85_7 = true := by decide +kernel
theorem kra_M_token_85_8 : chkA GXo 3000 350 ctr_M_token 85 car_M_token_85_8 = true := by decide +kernel
theorem kra_M_token_85_9 : chkA GXo 3000 350 ctr_M_token 85 car_M_token_85_9 = true := by decide +kernel
theorem kr_M_token : Chk GXo 3000 350 ctr_M_token := ⟨kre_M_token, fun pc as h => (show BT.AllP (fun pc as => ∀ a ∈ as, chkA GXo 3000 350 ctr_M_token pc a = true) ctr_M_token.cut from ⟨⟨List.forall_mem_cons.mpr ⟨kra_M_token_0_0, fun a ha => by cases ha⟩, trivial⟩, ⟨List.forall_mem_cons.mpr ⟨kra_M_token_85_0, List.forall_mem_cons.mpr ⟨kra_M_token_85_1, List.forall_mem_cons.mpr ⟨kra_M_token_85_2, List.forall_mem_cons.mpr ⟨kra_M_token_85_3, List.forall_mem_cons.mpr ⟨kra_M_token_85_4, List.forall_mem_cons.mpr ⟨kra_M_token_85_5, List.forall_mem_cons.mpr ⟨kra_M_token_85_6, List.forall_mem_cons.mpr ⟨kra_M_token_85_7, List.forall_mem_cons.mpr ⟨kra_M_token_85_8, List.forall_mem_cons.mpr ⟨kra_M_token_85_9, fun a ha => by cases ha⟩⟩⟩⟩⟩⟩⟩⟩⟩⟩, trivial⟩, trivial⟩).at h⟩
theorem kre_M_numbered : chkE GXo 3000 353 ctr_M_numbered = true := by decide +kernel
theorem kra_M_numbered_55_0 : chkA GXo 3000 353 ctr_M_numbered 55 car_M_numbered_55_0 = true := by decide +kernel
theorem kra_M_numbered_55_1 : chkA GXo 3000 353 ctr_M_numbered 55 car_M_numbered_55_1 = true := by decide +kernel
theorem kra_M_numbered_55_2 : chkA GXo 3000 353 ctr_M_numbered 55 car_M_numbered_55_2 = true := by decide +kernel
theorem kra_M_numbered_55_3 : chkA GXo 3000 353 ctr_M_numbered 55 car_M_numbered_55_3 = true := by decide +kernel
theorem kra_M_numbered_55_4 : chkA GXo 3000 353 ctr_M_numbered 55 car_M_numbered_55_4 = true := by decide +kernel
theorem kra_M_numbered_55_5 : chkA GXo 3000 353 ctr_M_numbered 55 car_M_numbered_55_5 = true := by decide +kernel
theorem kra_M_numbered_55_6 : chkA GXo 3000 353 ctr_M_numbered 55 car_M_numbered_55_6 = true := by decide +kernel
theorem kra_M_numbered_55_7 : chkA GXo 3000 353 ctr_M_numbered 55 car_M_numbered_55_7 = true := by decide +kernel
theorem kra_M_numbered_55_8 : chkA GXo 3000 353 ctr_M_numbered 55 car_M_numbered_55_8 = true := by decide +kernel
theorem kra_M_numbered_55_9 : chkA GXo 3000 353 ctr_M_numbered 55 car_M_numbered_55_9 = true := by decide +kernel
theorem kr_M_numbered : Chk GXo 3000 353 ctr_M_numbered := ⟨kre_M_numbered, fun pc as h => (show BT.AllP (fun pc as => ∀ a ∈ as, chkA GXo 3000 353 ctr_M_numbered pc a = true) ctr_M_numbered.cut from ⟨⟨List.forall_mem_cons.mpr ⟨kra_M_numbered_55_0, List.forall_mem_cons.mpr ⟨kra_M_numbered_55_1, List.forall_mem_cons.mpr ⟨kra_M_numbered_55_2, List.forall_mem_cons.mpr ⟨kra_M_numbered_55_3, List.forall_mem_cons.mpr ⟨kra_M_numbered_55_4, List.forall_mem_cons.mpr ⟨kra_M_numbered_55_5, List.forall_mem_cons.mpr ⟨kra_M_numbered_55_6, List.forall_mem_cons.mpr ⟨kra_M_numbered_55_7, List.forall_mem_cons.mpr ⟨kra_M_numbered_55_8, List.forall_mem_cons.mpr ⟨kra_M_numbered_55_9, fun a ha => by cases ha⟩⟩⟩⟩⟩⟩⟩⟩⟩⟩, trivial⟩, trivial⟩).at h⟩
theorem kre_M_reduce : chkE GXo 3000 355 ctr_M_reduce = true := by decide +kernel
theorem kra_M_reduce_0_0 : chkA GXo 3000 355 ctr_M_reduce 0 car_M_reduce_0_0 = true := by decide +kernel
