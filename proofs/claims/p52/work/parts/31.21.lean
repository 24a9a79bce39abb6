theorem ke_M_copy : chkE GX 3000 330 ct_M_copy = true := by decide +kernel
theorem ka_M_copy_130_0 : chkA GX 3000 330 ct_M_copy 130 ca_M_copy_130_0 = true := by decide +kernel
theorem ka_M_copy_168_0 : chkA GX 3000 330 ct_M_copy 168 ca_M_copy_168_0 = true := by decide +kernel
theorem kk_M_copy : Chk GX 3000 330 ct_M_copy := ⟨ke_M_copy, fun pc as h => (show BT.AllP (fun pc as => ∀ a ∈ as, chkA GX 3000 330 ct_M_copy pc a = true) ct_M_copy.cut from ⟨⟨List.forall_mem_cons.mpr ⟨ka_M_copy_130_0, fun a ha => by cases ha⟩, trivial⟩, ⟨List.forall_mem_cons.mpr ⟨ka_M_copy_168_0, fun a ha => by cases ha⟩, trivial⟩, trivial⟩).at h⟩
theorem ke_M_begins : chkE GX 3000 331 ct_M_begins = true := by decide +kernel
theorem ka_M_begins_30_0 : chkA GX 3000 331 ct_M_begins 30 ca_M_begins_30_0 = true := by decide +kernel
theorem kk_M_begins : Chk GX 3000 331 ct_M_begins := ⟨ke_M_begins, fun pc as h => (show BT.AllP (fun pc as => ∀ a ∈ as, chkA GX 3000 331 ct_M_begins pc a = true) ct_M_begins.cut from ⟨⟨List.forall_mem_cons.mpr ⟨ka_M_begins_30_0, fun a ha => by cases ha⟩, trivial⟩, trivial⟩).at h⟩
theorem ke_M_depthOf : chkE GX 3000 337 ct_M_depthOf = true := by decide +kernel
theorem ka_M_depthOf_9_0 : chkA GX 3000 337 ct_M_depthOf 9 ca_M_depthOf_9_0 = true := by decide +kernel
theorem kk_M_depthOf : Chk GX 3000 337 ct_M_depthOf := ⟨ke_M_depthOf, fun pc as h => (show BT.AllP (fun pc as => ∀ a ∈ as, chkA GX 3000 337 ct_M_depthOf pc a = true) ct_M_depthOf.cut from ⟨⟨List.forall_mem_cons.mpr ⟨ka_M_depthOf_9_0, fun a ha => by cases ha⟩, trivial⟩, trivial⟩).at h⟩
