theorem ke_M_copy : chkE GXL9 3000 330 ct_M_copyL9 = true := by decide +kernel
theorem ka_M_copy_130_0 : chkA GXL9 3000 330 ct_M_copyL9 130 ca_M_copy_130_0L9 = true := by decide +kernel
theorem ka_M_copy_168_0 : chkA GXL9 3000 330 ct_M_copyL9 168 ca_M_copy_168_0L9 = true := by decide +kernel
theorem kk_M_copy : Chk GXL9 3000 330 ct_M_copyL9 := ⟨ke_M_copy, fun pc as h => (show BT.AllP (fun pc as => ∀ a ∈ as, chkA GXL9 3000 330 ct_M_copyL9 pc a = true) ct_M_copyL9.cut from ⟨⟨List.forall_mem_cons.mpr ⟨ka_M_copy_130_0, fun a ha => by cases ha⟩, trivial⟩, ⟨List.forall_mem_cons.mpr ⟨ka_M_copy_168_0, fun a ha => by cases ha⟩, trivial⟩, trivial⟩).at h⟩
theorem ke_M_begins : chkE GXL9 3000 331 ct_M_beginsL9 = true := by decide +kernel
theorem ka_M_begins_30_0 : chkA GXL9 3000 331 ct_M_beginsL9 30 ca_M_begins_30_0L9 = true := by decide +kernel
theorem kk_M_begins : Chk GXL9 3000 331 ct_M_beginsL9 := ⟨ke_M_begins, fun pc as h => (show BT.AllP (fun pc as => ∀ a ∈ as, chkA GXL9 3000 331 ct_M_beginsL9 pc a = true) ct_M_beginsL9.cut from ⟨⟨List.forall_mem_cons.mpr ⟨ka_M_begins_30_0, fun a ha => by cases ha⟩, trivial⟩, trivial⟩).at h⟩
theorem ke_M_depthOfL9 : chkE GXL9 3000 337 ct_M_depthOfL9 = true := by decide +kernel
theorem ka_M_depthOf_9_0L9 : chkA GXL9 3000 337 ct_M_depthOfL9 9 ca_M_depthOf_9_0L9 = true := by decide +kernel
theorem kk_M_depthOfL9 : Chk GXL9 3000 337 ct_M_depthOfL9 := ⟨ke_M_depthOfL9, fun pc as h => (show BT.AllP (fun pc as => ∀ a ∈ as, chkA GXL9 3000 337 ct_M_depthOfL9 pc a = true) ct_M_depthOfL9.cut from ⟨⟨List.forall_mem_cons.mpr ⟨ka_M_depthOf_9_0L9, fun a ha => by cases ha⟩, trivial⟩, trivial⟩).at h⟩
theorem ke_M_thingOfL9 : chkE GXL9 3000 338 ct_M_thingOfL9 = true := by decide +kernel
theorem kk_M_thingOfL9 : Chk GXL9 3000 338 ct_M_thingOfL9 := ⟨ke_M_thingOfL9, fun pc as h => (show BT.AllP (fun pc as => ∀ a ∈ as, chkA GXL9 3000 338 ct_M_thingOfL9 pc a = true) ct_M_thingOfL9.cut from trivial).at h⟩
theorem ke_M_isUnderL9 : chkE GXL9 3000 339 ct_M_isUnderL9 = true := by decide +kernel
theorem ka_M_isUnder_2_0L9 : chkA GXL9 3000 339 ct_M_isUnderL9 2 ca_M_isUnder_2_0L9 = true := by decide +kernel
theorem kk_M_isUnderL9 : Chk GXL9 3000 339 ct_M_isUnderL9 := ⟨ke_M_isUnderL9, fun pc as h => (show BT.AllP (fun pc as => ∀ a ∈ as, chkA GXL9 3000 339 ct_M_isUnderL9 pc a = true) ct_M_isUnderL9.cut from ⟨⟨List.forall_mem_cons.mpr ⟨ka_M_isUnder_2_0L9, fun a ha => by cases ha⟩, trivial⟩, trivial⟩).at h⟩
theorem ke_M_underL9 : chkE GXL9 3000 340 ct_M_underL9 = true := by decide +kernel
theorem kk_M_underL9 : Chk GXL9 3000 340 ct_M_underL9 := ⟨ke_M_underL9, fun pc as h => (show BT.AllP (fun pc as => ∀ a ∈ as, chkA GXL9 3000 340 ct_M_underL9 pc a = true) ct_M_underL9.cut from trivial).at h⟩
theorem ke_M_heldByL9 : chkE GXL9 3000 342 ct_M_heldByL9 = true := by decide +kernel
theorem ka_M_heldBy_10_0L9 : chkA GXL9 3000 342 ct_M_heldByL9 10 ca_M_heldBy_10_0L9 = true := by decide +kernel
theorem ka_M_heldBy_10_1L9 : chkA GXL9 3000 342 ct_M_heldByL9 10 ca_M_heldBy_10_1L9 = true := by decide +kernel
theorem ka_M_heldBy_20_0L9 : chkA GXL9 3000 342 ct_M_heldByL9 20 ca_M_heldBy_20_0L9 = true := by decide +kernel
theorem ka_M_heldBy_30_0L9 : chkA GXL9 3000 342 ct_M_heldByL9 30 ca_M_heldBy_30_0L9 = true := by decide +kernel
theorem kk_M_heldByL9 : Chk GXL9 3000 342 ct_M_heldByL9 := ⟨ke_M_heldByL9, fun pc as h => (show BT.AllP (fun pc as => ∀ a ∈ as, chkA GXL9 3000 342 ct_M_heldByL9 pc a = true) ct_M_heldByL9.cut from ⟨⟨List.forall_mem_cons.mpr ⟨ka_M_heldBy_10_0L9, List.forall_mem_cons.mpr ⟨ka_M_heldBy_10_1L9, fun a ha => by cases ha⟩⟩, trivial⟩, ⟨List.forall_mem_cons.mpr ⟨ka_M_heldBy_20_0L9, fun a ha => by cases ha⟩, trivial⟩, ⟨List.forall_mem_cons.mpr ⟨ka_M_heldBy_30_0L9, fun a ha => by cases ha⟩, trivial⟩, trivial⟩).at h⟩
theorem ke_M_isHeldL9 : chkE GXL9 3000 343 ct_M_isHeldL9 = true := by decide +kernel
theorem kk_M_isHeldL9 : Chk GXL9 3000 343 ct_M_isHeldL9 := ⟨ke_M_isHeldL9, fun pc as h => (show BT.AllP (fun pc as => ∀ a ∈ as, chkA GXL9 3000 343 ct_M_isHeldL9 pc a = true) ct_M_isHeldL9.cut from trivial).at h⟩
theorem ke_M_doesHoldL9 : chkE GXL9 3000 344 ct_M_doesHoldL9 = true := by decide +kernel
theorem kk_M_doesHoldL9 : Chk GXL9 3000 344 ct_M_doesHoldL9 := ⟨ke_M_doesHoldL9, fun pc as h => (show BT.AllP (fun pc as => ∀ a ∈ as, chkA GXL9 3000 344 ct_M_doesHoldL9 pc a = true) ct_M_doesHoldL9.cut from trivial).at h⟩
theorem ke_M_number : chkE GXL9 3000 348 ct_M_numberL9 = true := by decide +kernel
theorem ka_M_number_0_0 : chkA GXL9 3000 348 ct_M_numberL9 0 ca_M_number_0_0L9 = true := by decide +kernel
theorem ka_M_number_0_1 : chkA GXL9 3000 348 ct_M_numberL9 0 ca_M_number_0_1L9 = true := by decide +kernel
theorem ka_M_number_143_0 : chkA GXL9 3000 348 ct_M_numberL9 143 ca_M_number_143_0 = true := by decide +kernel
theorem kk_M_number : Chk GXL9 3000 348 ct_M_numberL9 := ⟨ke_M_number, fun pc as h => (show BT.AllP (fun pc as => ∀ a ∈ as, chkA GXL9 3000 348 ct_M_numberL9 pc a = true) ct_M_numberL9.cut from ⟨⟨List.forall_mem_cons.mpr ⟨ka_M_number_0_0, List.forall_mem_cons.mpr ⟨ka_M_number_0_1, fun a ha => by cases ha⟩⟩, trivial⟩, ⟨List.forall_mem_cons.mpr ⟨ka_M_number_143_0, fun a ha => by cases ha⟩, trivial⟩, trivial⟩).at h⟩
theorem ke_M_sign : chkE GXL9 3000 349 ct_M_signL9 = true := by decide +kernel
theorem kk_M_sign : Chk GXL9 3000 349 ct_M_signL9 := ⟨ke_M_sign, fun pc as h => (show BT.AllP (fun pc as => ∀ a ∈ as, chkA GXL9 3000 349 ct_M_signL9 pc a = true) ct_M_signL9.cut from trivial).at h⟩
theorem ke_M_token : chkE GXL9 3000 350 ct_M_tokenL9 = true := by decide +kernel
theorem ka_M_token_0_0 : chkA GXL9 3000 350 ct_M_tokenL9 0 ca_M_token_0_0 = true := by decide +kernel
theorem ka_M_token_85_0 : chkA GXL9 3000 350 ct_M_tokenL9 85 ca_M_token_85_0L9 = true := by decide +kernel
theorem ka_M_token_85_1 : chkA GXL9 3000 350 ct_M_tokenL9 85 ca_M_token_85_1L9 = true := by decide +kernel
theorem kk_M_token : Chk GXL9 3000 350 ct_M_tokenL9 := ⟨ke_M_token, fun pc as h => (show BT.AllP (fun pc as => ∀ a ∈ as, chkA GXL9 3000 350 ct_M_tokenL9 pc a = true) ct_M_tokenL9.cut from ⟨⟨List.forall_mem_cons.mpr ⟨ka_M_token_0_0, fun a ha => by cases ha⟩, trivial⟩, ⟨List.forall_mem_cons.mpr ⟨ka_M_token_85_0, List.forall_mem_cons.mpr ⟨ka_M_token_85_1, fun a ha => by cases ha⟩⟩, trivial⟩, trivial⟩).at h⟩
theorem ke_M_numbered : chkE GXL9 3000 353 ct_M_numberedL9 = true := by decide +kernel
theorem ka_M_numbered_55_0 : chkA GXL9 3000 353 ct_M_numberedL9 55 ca_M_numbered_55_0 = true := by decide +kernel
theorem kk_M_numbered : Chk GXL9 3000 353 ct_M_numberedL9 := ⟨ke_M_numbered, fun pc as h => (show BT.AllP (fun pc as => ∀ a ∈ as, chkA GXL9 3000 353 ct_M_numberedL9 pc a = true) ct_M_numberedL9.cut from ⟨⟨List.forall_mem_cons.mpr ⟨ka_M_numbered_55_0, fun a ha => by cases ha⟩, trivial⟩, trivial⟩).at h⟩
theorem ke_M_reduce : chkE GXL9 3000 355 ct_M_reduceL9 = true := by decide +kernel
