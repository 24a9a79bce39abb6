theorem ka_M_useRight_63_0 : chkA GX 3000 436 ct_M_useRight 63 ca_M_useRight_63_0 = true := by decide +kernel
theorem kk_M_useRight : Chk GX 3000 436 ct_M_useRight := ⟨ke_M_useRight, fun pc as h => (show BT.AllP (fun pc as => ∀ a ∈ as, chkA GX 3000 436 ct_M_useRight pc a = true) ct_M_useRight.cut from ⟨⟨List.forall_mem_cons.mpr ⟨ka_M_useRight_63_0, fun a ha => by cases ha⟩, trivial⟩, trivial⟩).at h⟩
theorem ke_M_lendOf : chkE GX 3000 437 ct_M_lendOf = true := by decide +kernel
theorem kk_M_lendOf : Chk GX 3000 437 ct_M_lendOf := ⟨ke_M_lendOf, fun pc as h => (show BT.AllP (fun pc as => ∀ a ∈ as, chkA GX 3000 437 ct_M_lendOf pc a = true) ct_M_lendOf.cut from trivial).at h⟩
theorem ke_M_gets : chkE GX 3000 438 ct_M_gets = true := by decide +kernel
theorem ka_M_gets_2_0 : chkA GX 3000 438 ct_M_gets 2 ca_M_gets_2_0 = true := by decide +kernel
theorem ka_M_gets_2_1 : chkA GX 3000 438 ct_M_gets 2 ca_M_gets_2_1 = true := by decide +kernel
theorem ka_M_gets_2_2 : chkA GX 3000 438 ct_M_gets 2 ca_M_gets_2_2 = true := by decide +kernel
theorem ka_M_gets_2_3 : chkA GX 3000 438 ct_M_gets 2 ca_M_gets_2_3 = true := by decide +kernel
theorem ka_M_gets_2_4 : chkA GX 3000 438 ct_M_gets 2 ca_M_gets_2_4 = true := by decide +kernel
theorem ka_M_gets_2_5 : chkA GX 3000 438 ct_M_gets 2 ca_M_gets_2_5 = true := by decide +kernel
