theorem ke_M_entered : chkE GX 3000 474 ct_M_entered = true := by decide +kernel
theorem kk_M_entered : Chk GX 3000 474 ct_M_entered := ⟨ke_M_entered, fun pc as h => (show BT.AllP (fun pc as => ∀ a ∈ as, chkA GX 3000 474 ct_M_entered pc a = true) ct_M_entered.cut from trivial).at h⟩
theorem ke_M_half : chkE GX 3000 476 ct_M_half = true := by decide +kernel
theorem ka_M_half_57_0 : chkA GX 3000 476 ct_M_half 57 ca_M_half_57_0 = true := by decide +kernel
theorem kk_M_half : Chk GX 3000 476 ct_M_half := ⟨ke_M_half, fun pc as h => (show BT.AllP (fun pc as => ∀ a ∈ as, chkA GX 3000 476 ct_M_half pc a = true) ct_M_half.cut from ⟨⟨List.forall_mem_cons.mpr ⟨ka_M_half_57_0, fun a ha => by cases ha⟩, trivial⟩, trivial⟩).at h⟩
theorem ke_M_joined : chkE GX 3000 477 ct_M_joined = true := by decide +kernel
theorem ka_M_joined_31_0 : chkA GX 3000 477 ct_M_joined 31 ca_M_joined_31_0 = true := by decide +kernel
theorem ka_M_joined_73_0 : chkA GX 3000 477 ct_M_joined 73 ca_M_joined_73_0 = true := by decide +kernel
theorem ka_M_joined_111_0 : chkA GX 3000 477 ct_M_joined 111 ca_M_joined_111_0 = true := by decide +kernel
theorem ka_M_joined_134_0 : chkA GX 3000 477 ct_M_joined 134 ca_M_joined_134_0 = true := by decide +kernel
theorem kk_M_joined : Chk GX 3000 477 ct_M_joined := ⟨ke_M_joined, fun pc as h => (show BT.AllP (fun pc as => ∀ a ∈ as, chkA GX 3000 477 ct_M_joined pc a = true) ct_M_joined.cut from ⟨⟨List.forall_mem_cons.mpr ⟨ka_M_joined_31_0, fun a ha => by cases ha⟩, List.forall_mem_cons.mpr ⟨ka_M_joined_73_0, fun a ha => by cases ha⟩, trivial⟩, ⟨List.forall_mem_cons.mpr ⟨ka_M_joined_111_0, fun a ha => by cases ha⟩, List.forall_mem_cons.mpr ⟨ka_M_joined_134_0, fun a ha => by cases ha⟩, trivial⟩, trivial⟩).at h⟩
