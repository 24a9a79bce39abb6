theorem ka_M_pushOf_275_0 : chkA GX 3000 383 ct_M_pushOf 275 ca_M_pushOf_275_0 = true := by decide +kernel
theorem ka_M_pushOf_361_0 : chkA GX 3000 383 ct_M_pushOf 361 ca_M_pushOf_361_0 = true := by decide +kernel
theorem kk_M_pushOf : Chk GX 3000 383 ct_M_pushOf := ⟨ke_M_pushOf, fun pc as h => (show BT.AllP (fun pc as => ∀ a ∈ as, chkA GX 3000 383 ct_M_pushOf pc a = true) ct_M_pushOf.cut from ⟨⟨List.forall_mem_cons.mpr ⟨ka_M_pushOf_275_0, fun a ha => by cases ha⟩, trivial⟩, ⟨List.forall_mem_cons.mpr ⟨ka_M_pushOf_361_0, fun a ha => by cases ha⟩, trivial⟩, trivial⟩).at h⟩
theorem ke_M_pushJoined : chkE GX 3000 384 ct_M_pushJoined = true := by decide +kernel
theorem kk_M_pushJoined : Chk GX 3000 384 ct_M_pushJoined := ⟨ke_M_pushJoined, fun pc as h => (show BT.AllP (fun pc as => ∀ a ∈ as, chkA GX 3000 384 ct_M_pushJoined pc a = true) ct_M_pushJoined.cut from trivial).at h⟩
theorem ke_M_evaluate : chkE GX 3000 385 ct_M_evaluate = true := by decide +kernel
theorem ka_M_evaluate_8_0 : chkA GX 3000 385 ct_M_evaluate 8 ca_M_evaluate_8_0 = true := by decide +kernel
theorem kk_M_evaluate : Chk GX 3000 385 ct_M_evaluate := ⟨ke_M_evaluate, fun pc as h => (show BT.AllP (fun pc as => ∀ a ∈ as, chkA GX 3000 385 ct_M_evaluate pc a = true) ct_M_evaluate.cut from ⟨⟨List.forall_mem_cons.mpr ⟨ka_M_evaluate_8_0, fun a ha => by cases ha⟩, trivial⟩, trivial⟩).at h⟩
