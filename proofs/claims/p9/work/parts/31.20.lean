theorem ke_M_item : chkE GX 3000 328 ct_M_item = true := by decide +kernel
theorem kk_M_item : Chk GX 3000 328 ct_M_item := ⟨ke_M_item, fun pc as h => (show BT.AllP (fun pc as => ∀ a ∈ as, chkA GX 3000 328 ct_M_item pc a = true) ct_M_item.cut from trivial).at h⟩
theorem ke_M_itemOf : chkE GX 3000 329 ct_M_itemOf = true := by decide +kernel
theorem kk_M_itemOf : Chk GX 3000 329 ct_M_itemOf := ⟨ke_M_itemOf, fun pc as h => (show BT.AllP (fun pc as => ∀ a ∈ as, chkA GX 3000 329 ct_M_itemOf pc a = true) ct_M_itemOf.cut from trivial).at h⟩
