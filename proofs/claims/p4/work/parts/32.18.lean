theorem ke_Ju_truthOf : chkE GX 3000 138 ct_Ju_truthOf = true := by decide +kernel
theorem ka_Ju_truthOf_17_0 : chkA GX 3000 138 ct_Ju_truthOf 17 ca_Ju_truthOf_17_0 = true := by decide +kernel
theorem ka_Ju_truthOf_132_0 : chkA GX 3000 138 ct_Ju_truthOf 132 ca_Ju_truthOf_132_0 = true := by decide +kernel
theorem kk_Ju_truthOf : Chk GX 3000 138 ct_Ju_truthOf := ⟨ke_Ju_truthOf, fun pc as h => (show BT.AllP (fun pc as => ∀ a ∈ as, chkA GX 3000 138 ct_Ju_truthOf pc a = true) ct_Ju_truthOf.cut from ⟨⟨List.forall_mem_cons.mpr ⟨ka_Ju_truthOf_17_0, fun a ha => by cases ha⟩, trivial⟩, ⟨List.forall_mem_cons.mpr ⟨ka_Ju_truthOf_132_0, fun a ha => by cases ha⟩, trivial⟩, trivial⟩).at h⟩
