theorem ke_M_copy : chkE GX 3000 329 ct_M_copy = true := by decide +kernel
theorem ka_M_copy_130_0 : chkA GX 3000 329 ct_M_copy 130 ca_M_copy_130_0 = true := by decide +kernel
theorem ka_M_copy_168_0 : chkA GX 3000 329 ct_M_copy 168 ca_M_copy_168_0 = true := by decide +kernel
theorem kk_M_copy : Chk GX 3000 329 ct_M_copy := ⟨ke_M_copy, fun pc as h => (show BT.AllP (fun pc as => ∀ a ∈ as, chkA GX 3000 329 ct_M_copy pc a = true) ct_M_copy.cut from ⟨⟨List.forall_mem_cons.mpr ⟨ka_M_copy_130_0, fun a ha => by cases ha⟩, trivial⟩, ⟨List.forall_mem_cons.mpr ⟨ka_M_copy_168_0, fun a ha => by cases ha⟩, trivial⟩, trivial⟩).at h⟩
theorem ke_M_begins : chkE GX 3000 330 ct_M_begins = true := by decide +kernel
theorem ka_M_begins_30_0 : chkA GX 3000 330 ct_M_begins 30 ca_M_begins_30_0 = true := by decide +kernel
theorem kk_M_begins : Chk GX 3000 330 ct_M_begins := ⟨ke_M_begins, fun pc as h => (show BT.AllP (fun pc as => ∀ a ∈ as, chkA GX 3000 330 ct_M_begins pc a = true) ct_M_begins.cut from ⟨⟨List.forall_mem_cons.mpr ⟨ka_M_begins_30_0, fun a ha => by cases ha⟩, trivial⟩, trivial⟩).at h⟩
theorem ke_M_thing : chkE GX 3000 332 ct_M_thing = true := by decide +kernel
theorem kk_M_thing : Chk GX 3000 332 ct_M_thing := ⟨ke_M_thing, fun pc as h => (show BT.AllP (fun pc as => ∀ a ∈ as, chkA GX 3000 332 ct_M_thing pc a = true) ct_M_thing.cut from trivial).at h⟩
theorem ke_M_move : chkE GX 3000 333 ct_M_move = true := by decide +kernel
theorem ka_M_move_28_0 : chkA GX 3000 333 ct_M_move 28 ca_M_move_28_0 = true := by decide +kernel
theorem kk_M_move : Chk GX 3000 333 ct_M_move := ⟨ke_M_move, fun pc as h => (show BT.AllP (fun pc as => ∀ a ∈ as, chkA GX 3000 333 ct_M_move pc a = true) ct_M_move.cut from ⟨⟨List.forall_mem_cons.mpr ⟨ka_M_move_28_0, fun a ha => by cases ha⟩, trivial⟩, trivial⟩).at h⟩
theorem ke_M_cutOff : chkE GX 3000 334 ct_M_cutOff = true := by decide +kernel
theorem kk_M_cutOff : Chk GX 3000 334 ct_M_cutOff := ⟨ke_M_cutOff, fun pc as h => (show BT.AllP (fun pc as => ∀ a ∈ as, chkA GX 3000 334 ct_M_cutOff pc a = true) ct_M_cutOff.cut from trivial).at h⟩
theorem ke_M_drop : chkE GX 3000 335 ct_M_drop = true := by decide +kernel
theorem ka_M_drop_20_0 : chkA GX 3000 335 ct_M_drop 20 ca_M_drop_20_0 = true := by decide +kernel
theorem kk_M_drop : Chk GX 3000 335 ct_M_drop := ⟨ke_M_drop, fun pc as h => (show BT.AllP (fun pc as => ∀ a ∈ as, chkA GX 3000 335 ct_M_drop pc a = true) ct_M_drop.cut from ⟨⟨List.forall_mem_cons.mpr ⟨ka_M_drop_20_0, fun a ha => by cases ha⟩, trivial⟩, trivial⟩).at h⟩
theorem ke_M_depthOf : chkE GX 3000 336 ct_M_depthOf = true := by decide +kernel
theorem ka_M_depthOf_9_0 : chkA GX 3000 336 ct_M_depthOf 9 ca_M_depthOf_9_0 = true := by decide +kernel
theorem kk_M_depthOf : Chk GX 3000 336 ct_M_depthOf := ⟨ke_M_depthOf, fun pc as h => (show BT.AllP (fun pc as => ∀ a ∈ as, chkA GX 3000 336 ct_M_depthOf pc a = true) ct_M_depthOf.cut from ⟨⟨List.forall_mem_cons.mpr ⟨ka_M_depthOf_9_0, fun a ha => by cases ha⟩, trivial⟩, trivial⟩).at h⟩
