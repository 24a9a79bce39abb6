theorem ke_Re_over : chkE GX 3000 61 ct_Re_over = true := by decide +kernel
theorem ka_Re_over_135_0 : chkA GX 3000 61 ct_Re_over 135 ca_Re_over_135_0 = true := by decide +kernel
theorem kk_Re_over : Chk GX 3000 61 ct_Re_over := ⟨ke_Re_over, fun pc as h => (show BT.AllP (fun pc as => ∀ a ∈ as, chkA GX 3000 61 ct_Re_over pc a = true) ct_Re_over.cut from ⟨⟨List.forall_mem_cons.mpr ⟨ka_Re_over_135_0, fun a ha => by cases ha⟩, trivial⟩, trivial⟩).at h⟩
