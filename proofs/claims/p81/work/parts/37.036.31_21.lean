theorem ka_M_pushOf_275_0L9 : chkA GXL9 3000 383 ct_M_pushOfL9 275 ca_M_pushOf_275_0L9 = true := by decide +kernel
theorem ka_M_pushOf_361_0L9 : chkA GXL9 3000 383 ct_M_pushOfL9 361 ca_M_pushOf_361_0L9 = true := by decide +kernel
theorem kk_M_pushOfL9 : Chk GXL9 3000 383 ct_M_pushOfL9 := ⟨ke_M_pushOfL9, fun pc as h => (show BT.AllP (fun pc as => ∀ a ∈ as, chkA GXL9 3000 383 ct_M_pushOfL9 pc a = true) ct_M_pushOfL9.cut from ⟨⟨List.forall_mem_cons.mpr ⟨ka_M_pushOf_275_0L9, fun a ha => by cases ha⟩, trivial⟩, ⟨List.forall_mem_cons.mpr ⟨ka_M_pushOf_361_0L9, fun a ha => by cases ha⟩, trivial⟩, trivial⟩).at h⟩
theorem ke_M_pushJoinedL9 : chkE GXL9 3000 384 ct_M_pushJoinedL9 = true := by decide +kernel
theorem kk_M_pushJoinedL9 : Chk GXL9 3000 384 ct_M_pushJoinedL9 := ⟨ke_M_pushJoinedL9, fun pc as h => (show BT.AllP (fun pc as => ∀ a ∈ as, chkA GXL9 3000 384 ct_M_pushJoinedL9 pc a = true) ct_M_pushJoinedL9.cut from trivial).at h⟩
theorem ke_M_evaluateL9 : chkE GXL9 3000 385 ct_M_evaluateL9 = true := by decide +kernel
theorem ka_M_evaluate_8_0L9 : chkA GXL9 3000 385 ct_M_evaluateL9 8 ca_M_evaluate_8_0L9 = true := by decide +kernel
theorem kk_M_evaluateL9 : Chk GXL9 3000 385 ct_M_evaluateL9 := ⟨ke_M_evaluateL9, fun pc as h => (show BT.AllP (fun pc as => ∀ a ∈ as, chkA GXL9 3000 385 ct_M_evaluateL9 pc a = true) ct_M_evaluateL9.cut from ⟨⟨List.forall_mem_cons.mpr ⟨ka_M_evaluate_8_0L9, fun a ha => by cases ha⟩, trivial⟩, trivial⟩).at h⟩
