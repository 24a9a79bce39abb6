theorem ke_M_pack : chkE GX 3000 292 ct_M_pack = true := by decide +kernel
theorem kk_M_pack : Chk GX 3000 292 ct_M_pack := ⟨ke_M_pack, fun pc as h => (show BT.AllP (fun pc as => ∀ a ∈ as, chkA GX 3000 292 ct_M_pack pc a = true) ct_M_pack.cut from trivial).at h⟩
