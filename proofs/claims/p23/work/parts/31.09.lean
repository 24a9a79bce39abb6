theorem ke_M_copy : chkE GX 3000 330 ct_M_copy = true := by decide +kernel
theorem ka_M_copy_130_0 : chkA GX 3000 330 ct_M_copy 130 ca_M_copy_130_0 = true := by decide +kernel
theorem ka_M_copy_168_0 : chkA GX 3000 330 ct_M_copy 168 ca_M_copy_168_0 = true := by decide +kernel
theorem kk_M_copy : Chk GX 3000 330 ct_M_copy := ⟨ke_M_copy, fun pc as h => (show BT.AllP (fun pc as => ∀ a ∈ as, chkA GX 3000 330 ct_M_copy pc a = true) ct_M_copy.cut from ⟨⟨List.forall_mem_cons.mpr ⟨ka_M_copy_130_0, fun a ha => by cases ha⟩, trivial⟩, ⟨List.forall_mem_cons.mpr ⟨ka_M_copy_168_0, fun a ha => by cases ha⟩, trivial⟩, trivial⟩).at h⟩
theorem ke_M_begins : chkE GX 3000 331 ct_M_begins = true := by decide +kernel
theorem ka_M_begins_30_0 : chkA GX 3000 331 ct_M_begins 30 ca_M_begins_30_0 = true := by decide +kernel
theorem kk_M_begins : Chk GX 3000 331 ct_M_begins := ⟨ke_M_begins, fun pc as h => (show BT.AllP (fun pc as => ∀ a ∈ as, chkA GX 3000 331 ct_M_begins pc a = true) ct_M_begins.cut from ⟨⟨List.forall_mem_cons.mpr ⟨ka_M_begins_30_0, fun a ha => by cases ha⟩, trivial⟩, trivial⟩).at h⟩
theorem ke_M_depthOf : chkE GX 3000 337 ct_M_depthOf = true := by decide +kernel
theorem ka_M_depthOf_9_0 : chkA GX 3000 337 ct_M_depthOf 9 ca_M_depthOf_9_0 = true := by decide +kernel
theorem kk_M_depthOf : Chk GX 3000 337 ct_M_depthOf := ⟨ke_M_depthOf, fun pc as h => (show BT.AllP (fun pc as => ∀ a ∈ as, chkA GX 3000 337 ct_M_depthOf pc a = true) ct_M_depthOf.cut from ⟨⟨List.forall_mem_cons.mpr ⟨ka_M_depthOf_9_0, fun a ha => by cases ha⟩, trivial⟩, trivial⟩).at h⟩
theorem ke_M_thingOf : chkE GX 3000 338 ct_M_thingOf = true := by decide +kernel
theorem kk_M_thingOf : Chk GX 3000 338 ct_M_thingOf := ⟨ke_M_thingOf, fun pc as h => (show BT.AllP (fun pc as => ∀ a ∈ as, chkA GX 3000 338 ct_M_thingOf pc a = true) ct_M_thingOf.cut from trivial).at h⟩
theorem ke_M_isUnder : chkE GX 3000 339 ct_M_isUnder = true := by decide +kernel
theorem ka_M_isUnder_2_0 : chkA GX 3000 339 ct_M_isUnder 2 ca_M_isUnder_2_0 = true := by decide +kernel
theorem kk_M_isUnder : Chk GX 3000 339 ct_M_isUnder := ⟨ke_M_isUnder, fun pc as h => (show BT.AllP (fun pc as => ∀ a ∈ as, chkA GX 3000 339 ct_M_isUnder pc a = true) ct_M_isUnder.cut from ⟨⟨List.forall_mem_cons.mpr ⟨ka_M_isUnder_2_0, fun a ha => by cases ha⟩, trivial⟩, trivial⟩).at h⟩
theorem ke_M_under : chkE GX 3000 340 ct_M_under = true := by decide +kernel
theorem kk_M_under : Chk GX 3000 340 ct_M_under := ⟨ke_M_under, fun pc as h => (show BT.AllP (fun pc as => ∀ a ∈ as, chkA GX 3000 340 ct_M_under pc a = true) ct_M_under.cut from trivial).at h⟩
theorem ke_M_holds : chkE GX 3000 341 ct_M_holds = true := by decide +kernel
theorem kk_M_holds : Chk GX 3000 341 ct_M_holds := ⟨ke_M_holds, fun pc as h => (show BT.AllP (fun pc as => ∀ a ∈ as, chkA GX 3000 341 ct_M_holds pc a = true) ct_M_holds.cut from trivial).at h⟩
theorem ke_M_heldBy : chkE GX 3000 342 ct_M_heldBy = true := by decide +kernel
theorem ka_M_heldBy_10_0 : chkA GX 3000 342 ct_M_heldBy 10 ca_M_heldBy_10_0 = true := by decide +kernel
theorem ka_M_heldBy_10_1 : chkA GX 3000 342 ct_M_heldBy 10 ca_M_heldBy_10_1 = true := by decide +kernel
theorem ka_M_heldBy_20_0 : chkA GX 3000 342 ct_M_heldBy 20 ca_M_heldBy_20_0 = true := by decide +kernel
theorem ka_M_heldBy_30_0 : chkA GX 3000 342 ct_M_heldBy 30 ca_M_heldBy_30_0 = true := by decide +kernel
theorem kk_M_heldBy : Chk GX 3000 342 ct_M_heldBy := ⟨ke_M_heldBy, fun pc as h => (show BT.AllP (fun pc as => ∀ a ∈ as, chkA GX 3000 342 ct_M_heldBy pc a = true) ct_M_heldBy.cut from ⟨⟨List.forall_mem_cons.mpr ⟨ka_M_heldBy_10_0, List.forall_mem_cons.mpr ⟨ka_M_heldBy_10_1, fun a ha => by cases ha⟩⟩, trivial⟩, ⟨List.forall_mem_cons.mpr ⟨ka_M_heldBy_20_0, fun a ha => by cases ha⟩, trivial⟩, ⟨List.forall_mem_cons.mpr ⟨ka_M_heldBy_30_0, fun a ha => by cases ha⟩, trivial⟩, trivial⟩).at h⟩
theorem ke_M_isHeld : chkE GX 3000 343 ct_M_isHeld = true := by decide +kernel
theorem kk_M_isHeld : Chk GX 3000 343 ct_M_isHeld := ⟨ke_M_isHeld, fun pc as h => (show BT.AllP (fun pc as => ∀ a ∈ as, chkA GX 3000 343 ct_M_isHeld pc a = true) ct_M_isHeld.cut from trivial).at h⟩
theorem ke_M_doesHold : chkE GX 3000 344 ct_M_doesHold = true := by decide +kernel
theorem kk_M_doesHold : Chk GX 3000 344 ct_M_doesHold := ⟨ke_M_doesHold, fun pc as h => (show BT.AllP (fun pc as => ∀ a ∈ as, chkA GX 3000 344 ct_M_doesHold pc a = true) ct_M_doesHold.cut from trivial).at h⟩
theorem ke_M_rules : chkE GX 3000 377 ct_M_rules = true := by decide +kernel
theorem kk_M_rules : Chk GX 3000 377 ct_M_rules := ⟨ke_M_rules, fun pc as h => (show BT.AllP (fun pc as => ∀ a ∈ as, chkA GX 3000 377 ct_M_rules pc a = true) ct_M_rules.cut from trivial).at h⟩
theorem ke_M_pushItem : chkE GX 3000 379 ct_M_pushItem = true := by decide +kernel
theorem kk_M_pushItem : Chk GX 3000 379 ct_M_pushItem := ⟨ke_M_pushItem, fun pc as h => (show BT.AllP (fun pc as => ∀ a ∈ as, chkA GX 3000 379 ct_M_pushItem pc a = true) ct_M_pushItem.cut from trivial).at h⟩
theorem ke_M_pushAt : chkE GX 3000 380 ct_M_pushAt = true := by decide +kernel
theorem kk_M_pushAt : Chk GX 3000 380 ct_M_pushAt := ⟨ke_M_pushAt, fun pc as h => (show BT.AllP (fun pc as => ∀ a ∈ as, chkA GX 3000 380 ct_M_pushAt pc a = true) ct_M_pushAt.cut from trivial).at h⟩
theorem ke_M_pushIn : chkE GX 3000 381 ct_M_pushIn = true := by decide +kernel
theorem ka_M_pushIn_105_0 : chkA GX 3000 381 ct_M_pushIn 105 ca_M_pushIn_105_0 = true := by decide +kernel
theorem kk_M_pushIn : Chk GX 3000 381 ct_M_pushIn := ⟨ke_M_pushIn, fun pc as h => (show BT.AllP (fun pc as => ∀ a ∈ as, chkA GX 3000 381 ct_M_pushIn pc a = true) ct_M_pushIn.cut from ⟨⟨List.forall_mem_cons.mpr ⟨ka_M_pushIn_105_0, fun a ha => by cases ha⟩, trivial⟩, trivial⟩).at h⟩
theorem ke_M_pushOf : chkE GX 3000 383 ct_M_pushOf = true := by decide +kernel
theorem ka_M_pushOf_275_0 : chkA GX 3000 383 ct_M_pushOf 275 ca_M_pushOf_275_0 = true := by decide +kernel
theorem ka_M_pushOf_361_0 : chkA GX 3000 383 ct_M_pushOf 361 ca_M_pushOf_361_0 = true := by decide +kernel
theorem kk_M_pushOf : Chk GX 3000 383 ct_M_pushOf := ⟨ke_M_pushOf, fun pc as h => (show BT.AllP (fun pc as => ∀ a ∈ as, chkA GX 3000 383 ct_M_pushOf pc a = true) ct_M_pushOf.cut from ⟨⟨List.forall_mem_cons.mpr ⟨ka_M_pushOf_275_0, fun a ha => by cases ha⟩, trivial⟩, ⟨List.forall_mem_cons.mpr ⟨ka_M_pushOf_361_0, fun a ha => by cases ha⟩, trivial⟩, trivial⟩).at h⟩
