theorem ka_Re_packed_18_0 : chkA GX 3000 54 ct_Re_packed 18 ca_Re_packed_18_0 = true := by decide +kernel
theorem kk_Re_packed : Chk GX 3000 54 ct_Re_packed := ⟨ke_Re_packed, fun pc as h => (show BT.AllP (fun pc as => ∀ a ∈ as, chkA GX 3000 54 ct_Re_packed pc a = true) ct_Re_packed.cut from ⟨⟨List.forall_mem_cons.mpr ⟨ka_Re_packed_18_0, fun a ha => by cases ha⟩, trivial⟩, trivial⟩).at h⟩
theorem ke_Re_ofWhole : chkE GX 3000 55 ct_Re_ofWhole = true := by decide +kernel
theorem kk_Re_ofWhole : Chk GX 3000 55 ct_Re_ofWhole := ⟨ke_Re_ofWhole, fun pc as h => (show BT.AllP (fun pc as => ∀ a ∈ as, chkA GX 3000 55 ct_Re_ofWhole pc a = true) ct_Re_ofWhole.cut from trivial).at h⟩
theorem ke_Re_shortage : chkE GX 3000 59 ct_Re_shortage = true := by decide +kernel
theorem ka_Re_shortage_2_0 : chkA GX 3000 59 ct_Re_shortage 2 ca_Re_shortage_2_0 = true := by decide +kernel
theorem kk_Re_shortage : Chk GX 3000 59 ct_Re_shortage := ⟨ke_Re_shortage, fun pc as h => (show BT.AllP (fun pc as => ∀ a ∈ as, chkA GX 3000 59 ct_Re_shortage pc a = true) ct_Re_shortage.cut from ⟨⟨List.forall_mem_cons.mpr ⟨ka_Re_shortage_2_0, fun a ha => by cases ha⟩, trivial⟩, trivial⟩).at h⟩
theorem ke_Re_over : chkE GX 3000 61 ct_Re_over = true := by decide +kernel
theorem ka_Re_over_135_0 : chkA GX 3000 61 ct_Re_over 135 ca_Re_over_135_0 = true := by decide +kernel
theorem kk_Re_over : Chk GX 3000 61 ct_Re_over := ⟨ke_Re_over, fun pc as h => (show BT.AllP (fun pc as => ∀ a ∈ as, chkA GX 3000 61 ct_Re_over pc a = true) ct_Re_over.cut from ⟨⟨List.forall_mem_cons.mpr ⟨ka_Re_over_135_0, fun a ha => by cases ha⟩, trivial⟩, trivial⟩).at h⟩
theorem ke_Po_splitNumber : chkE GX 3000 62 ct_Po_splitNumber = true := by decide +kernel
theorem ka_Po_splitNumber_15_0 : chkA GX 3000 62 ct_Po_splitNumber 15 ca_Po_splitNumber_15_0 = true := by decide +kernel
