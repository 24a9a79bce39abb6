theorem ka_M_put_122_0 : chkA GX 3000 321 ct_M_put 122 ca_M_put_122_0 = true := by decide +kernel
theorem kk_M_put : Chk GX 3000 321 ct_M_put := ⟨ke_M_put, fun pc as h => (show BT.AllP (fun pc as => ∀ a ∈ as, chkA GX 3000 321 ct_M_put pc a = true) ct_M_put.cut from ⟨⟨List.forall_mem_cons.mpr ⟨ka_M_put_77_0, fun a ha => by cases ha⟩, trivial⟩, ⟨List.forall_mem_cons.mpr ⟨ka_M_put_111_0, fun a ha => by cases ha⟩, trivial⟩, ⟨List.forall_mem_cons.mpr ⟨ka_M_put_122_0, fun a ha => by cases ha⟩, trivial⟩, trivial⟩).at h⟩
theorem ke_M_back : chkE GX 3000 322 ct_M_back = true := by decide +kernel
theorem kk_M_back : Chk GX 3000 322 ct_M_back := ⟨ke_M_back, fun pc as h => (show BT.AllP (fun pc as => ∀ a ∈ as, chkA GX 3000 322 ct_M_back pc a = true) ct_M_back.cut from trivial).at h⟩
theorem ke_M_belongs : chkE GX 3000 323 ct_M_belongs = true := by decide +kernel
theorem kk_M_belongs : Chk GX 3000 323 ct_M_belongs := ⟨ke_M_belongs, fun pc as h => (show BT.AllP (fun pc as => ∀ a ∈ as, chkA GX 3000 323 ct_M_belongs pc a = true) ct_M_belongs.cut from trivial).at h⟩
theorem ke_M_rowOf : chkE GX 3000 324 ct_M_rowOf = true := by decide +kernel
theorem kk_M_rowOf : Chk GX 3000 324 ct_M_rowOf := ⟨ke_M_rowOf, fun pc as h => (show BT.AllP (fun pc as => ∀ a ∈ as, chkA GX 3000 324 ct_M_rowOf pc a = true) ct_M_rowOf.cut from trivial).at h⟩
theorem ke_M_feature : chkE GX 3000 327 ct_M_feature = true := by decide +kernel
theorem ka_M_feature_78_0 : chkA GX 3000 327 ct_M_feature 78 ca_M_feature_78_0 = true := by decide +kernel
theorem kk_M_feature : Chk GX 3000 327 ct_M_feature := ⟨ke_M_feature, fun pc as h => (show BT.AllP (fun pc as => ∀ a ∈ as, chkA GX 3000 327 ct_M_feature pc a = true) ct_M_feature.cut from ⟨⟨List.forall_mem_cons.mpr ⟨ka_M_feature_78_0, fun a ha => by cases ha⟩, trivial⟩, trivial⟩).at h⟩
theorem ke_M_item : chkE GX 3000 328 ct_M_item = true := by decide +kernel
theorem kk_M_item : Chk GX 3000 328 ct_M_item := ⟨ke_M_item, fun pc as h => (show BT.AllP (fun pc as => ∀ a ∈ as, chkA GX 3000 328 ct_M_item pc a = true) ct_M_item.cut from trivial).at h⟩
theorem ke_M_itemOf : chkE GX 3000 329 ct_M_itemOf = true := by decide +kernel
theorem kk_M_itemOf : Chk GX 3000 329 ct_M_itemOf := ⟨ke_M_itemOf, fun pc as h => (show BT.AllP (fun pc as => ∀ a ∈ as, chkA GX 3000 329 ct_M_itemOf pc a = true) ct_M_itemOf.cut from trivial).at h⟩
