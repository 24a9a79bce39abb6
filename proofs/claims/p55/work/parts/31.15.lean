theorem ke_M_copy : chkE GX 3000 330 ct_M_copy = true := by decide +kernel
theorem ka_M_copy_130_0 : chkA GX 3000 330 ct_M_copy 130 ca_M_copy_130_0 = true := by decide +kernel
theorem ka_M_copy_168_0 : chkA GX 3000 330 ct_M_copy 168 ca_M_copy_168_0 = true := by decide +kernel
theorem kk_M_copy : Chk GX 3000 330 ct_M_copy := ⟨ke_M_copy, fun pc as h => (show BT.AllP (fun pc as => ∀ a ∈ as, chkA GX 3000 330 ct_M_copy pc a = true) ct_M_copy.cut from ⟨⟨List.forall_mem_cons.mpr ⟨ka_M_copy_130_0, fun a ha => by cases ha⟩, trivial⟩, ⟨List.forall_mem_cons.mpr ⟨ka_M_copy_168_0, fun a ha => by cases ha⟩, trivial⟩, trivial⟩).at h⟩
theorem ke_M_begins : chkE GX 3000 331 ct_M_begins = true := by decide +kernel
theorem ka_M_begins_30_0 : chkA GX 3000 331 ct_M_begins 30 ca_M_begins_30_0 = true := by decide +kernel
theorem kk_M_begins : Chk GX 3000 331 ct_M_begins := ⟨ke_M_begins, fun pc as h => (show BT.AllP (fun pc as => ∀ a ∈ as, chkA GX 3000 331 ct_M_begins pc a = true) ct_M_begins.cut from ⟨⟨List.forall_mem_cons.mpr ⟨ka_M_begins_30_0, fun a ha => by cases ha⟩, trivial⟩, trivial⟩).at h⟩
theorem ke_M_depthOf : chkE GX 3000 337 ct_M_depthOf = true := by decide +kernel
theorem ka_M_depthOf_9_0 : chkA GX 3000 337 ct_M_depthOf 9 ca_M_depthOf_9_0 = true := by decide +kernel
theorem kk_M_depthOf : Chk GX 3000 337 ct_M_depthOf := ⟨ke_M_depthOf, fun pc as h => (show BT.AllP (fun pc as => ∀ a ∈ as, chkA GX 3000 337 ct_M_depthOf pc a = true) ct_M_depthOf.cut from ⟨⟨List.forall_mem_cons.mpr ⟨ka_M_depthOf_9_0, fun a ha => by cases ha⟩, trivial⟩, trivial⟩).at h⟩
theorem ke_M_thingOf : chkE GX 3000 338 ct_M_thingOf = true := by decide +kernel
theorem kk_M_thingOf : Chk GX 3000 338 ct_M_thingOf := ⟨ke_M_thingOf, fun pc as h => (show BT.AllP (fun pc as => ∀ a ∈ as, chkA GX 3000 338 ct_M_thingOf pc a = true) ct_M_thingOf.cut from trivial).at h⟩
theorem ke_M_isUnder : chkE GX 3000 339 ct_M_isUnder = true := by decide +kernel
theorem ka_M_isUnder_2_0 : chkA GX 3000 339 ct_M_isUnder 2 ca_M_isUnder_2_0 = true := by decide +kernel
theorem kk_M_isUnder : Chk GX 3000 339 ct_M_isUnder := ⟨ke_M_isUnder, fun pc as h => (show BT.AllP (fun pc as => ∀ a ∈ as, chkA GX 3000 339 ct_M_isUnder pc a = true) ct_M_isUnder.cut from ⟨⟨List.forall_mem_cons.mpr ⟨ka_M_isUnder_2_0, fun a ha => by cases ha⟩, trivial⟩, trivial⟩).at h⟩
theorem ke_M_under : chkE GX 3000 340 ct_M_under = true := by decide +kernel
theorem kk_M_under : Chk GX 3000 340 ct_M_under := ⟨ke_M_under, fun pc as h => (show BT.AllP (fun pc as => ∀ a ∈ as, chkA GX 3000 340 ct_M_under pc a = true) ct_M_under.cut from trivial).at h⟩
theorem ke_M_heldBy : chkE GX 3000 342 ct_M_heldBy = true := by decide +kernel
theorem ka_M_heldBy_10_0 : chkA GX 3000 342 ct_M_heldBy 10 ca_M_heldBy_10_0 = true := by decide +kernel
theorem ka_M_heldBy_10_1 : chkA GX 3000 342 ct_M_heldBy 10 ca_M_heldBy_10_1 = true := by decide +kernel
theorem ka_M_heldBy_20_0 : chkA GX 3000 342 ct_M_heldBy 20 ca_M_heldBy_20_0 = true := by decide +kernel
theorem ka_M_heldBy_30_0 : chkA GX 3000 342 ct_M_heldBy 30 ca_M_heldBy_30_0 = true := by decide +kernel
theorem kk_M_heldBy : Chk GX 3000 342 ct_M_heldBy := ⟨ke_M_heldBy, fun pc as h => (show BT.AllP (fun pc as => ∀ a ∈ as, chkA GX 3000 342 ct_M_heldBy pc a = true) ct_M_heldBy.cut from ⟨⟨List.forall_mem_cons.mpr ⟨ka_M_heldBy_10_0, List.forall_mem_cons.mpr ⟨ka_M_heldBy_10_1, fun a ha => by cases ha⟩⟩, trivial⟩, ⟨List.forall_mem_cons.mpr ⟨ka_M_heldBy_20_0, fun a ha => by cases ha⟩, trivial⟩, ⟨List.forall_mem_cons.mpr ⟨ka_M_heldBy_30_0, fun a ha => by cases ha⟩, trivial⟩, trivial⟩).at h⟩
theorem ke_M_isHeld : chkE GX 3000 343 ct_M_isHeld = true := by decide +kernel
theorem kk_M_isHeld : Chk GX 3000 343 ct_M_isHeld := ⟨ke_M_isHeld, fun pc as h => (show BT.AllP (fun pc as => ∀ a ∈ as, chkA GX 3000 343 ct_M_isHeld pc a = true) ct_M_isHeld.cut from trivial).at h⟩
theorem ke_M_doesHold : chkE GX 3000 344 ct_M_doesHold = true := by decide +kernel
theorem kk_M_doesHold : Chk GX 3000 344 ct_M_doesHold := ⟨ke_M_doesHold, fun pc as h => (show BT.AllP (fun pc as => ∀ a ∈ as, chkA GX 3000 344 ct_M_doesHold pc a = true) ct_M_doesHold.cut from trivial).at h⟩
theorem ke_M_number : chkE GX 3000 348 ct_M_number = true := by decide +kernel
theorem ka_M_number_0_0 : chkA GX 3000 348 ct_M_number 0 ca_M_number_0_0 = true := by decide +kernel
theorem ka_M_number_0_1 : chkA GX 3000 348 ct_M_number 0 ca_M_number_0_1 = true := by decide +kernel
theorem ka_M_number_143_0 : chkA GX 3000 348 ct_M_number 143 ca_M_number_143_0 = true := by decide +kernel
theorem kk_M_number : Chk GX 3000 348 ct_M_number := ⟨ke_M_number, fun pc as h => (show BT.AllP (fun pc as => ∀ a ∈ as, chkA GX 3000 348 ct_M_number pc a = true) ct_M_number.cut from ⟨⟨List.forall_mem_cons.mpr ⟨ka_M_number_0_0, List.forall_mem_cons.mpr ⟨ka_M_number_0_1, fun a ha => by cases ha⟩⟩, trivial⟩, ⟨List.forall_mem_cons.mpr ⟨ka_M_number_143_0, fun a ha => by cases ha⟩, trivial⟩, trivial⟩).at h⟩
theorem ke_M_sign : chkE GX 3000 349 ct_M_sign = true := by decide +kernel
theorem kk_M_sign : Chk GX 3000 349 ct_M_sign := ⟨ke_M_sign, fun pc as h => (show BT.AllP (fun pc as => ∀ a ∈ as, chkA GX 3000 349 ct_M_sign pc a = true) ct_M_sign.cut from trivial).at h⟩
theorem ke_M_token : chkE GX 3000 350 ct_M_token = true := by decide +kernel
theorem ka_M_token_0_0 : chkA GX 3000 350 ct_M_token 0 ca_M_token_0_0 = true := by decide +kernel
theorem ka_M_token_85_0 : chkA GX 3000 350 ct_M_token 85 ca_M_token_85_0 = true := by decide +kernel
theorem ka_M_token_85_1 : chkA GX 3000 350 ct_M_token 85 ca_M_token_85_1 = true := by decide +kernel
theorem kk_M_token : Chk GX 3000 350 ct_M_token := ⟨ke_M_token, fun pc as h => (show BT.AllP (fun pc as => ∀ a ∈ as, chkA GX 3000 350 ct_M_token pc a = true) ct_M_token.cut from ⟨⟨List.forall_mem_cons.mpr ⟨ka_M_token_0_0, fun a ha => by cases ha⟩, trivial⟩, ⟨List.forall_mem_cons.mpr ⟨ka_M_token_85_0, List.forall_mem_cons.mpr ⟨ka_M_token_85_1, fun a ha => by cases ha⟩⟩, trivial⟩, trivial⟩).at h⟩
theorem ke_M_numbered : chkE GX 3000 353 ct_M_numbered = true := by decide +kernel
theorem ka_M_numbered_55_0 : chkA GX 3000 353 ct_M_numbered 55 ca_M_numbered_55_0 = true := by decide +kernel
theorem kk_M_numbered : Chk GX 3000 353 ct_M_numbered := ⟨ke_M_numbered, fun pc as h => (show BT.AllP (fun pc as => ∀ a ∈ as, chkA GX 3000 353 ct_M_numbered pc a = true) ct_M_numbered.cut from ⟨⟨List.forall_mem_cons.mpr ⟨ka_M_numbered_55_0, fun a ha => by cases ha⟩, trivial⟩, trivial⟩).at h⟩
theorem ke_M_reduce : chkE GX 3000 355 ct_M_reduce = true := by decide +kernel
