theorem ka_M_fit_23_0 : chkA GX 3000 294 ct_M_fit 23 ca_M_fit_23_0 = true := by decide +kernel
theorem ka_M_fit_135_0 : chkA GX 3000 294 ct_M_fit 135 ca_M_fit_135_0 = true := by decide +kernel
theorem kk_M_fit : Chk GX 3000 294 ct_M_fit := ⟨ke_M_fit, fun pc as h => (show BT.AllP (fun pc as => ∀ a ∈ as, chkA GX 3000 294 ct_M_fit pc a = true) ct_M_fit.cut from ⟨⟨List.forall_mem_cons.mpr ⟨ka_M_fit_23_0, fun a ha => by cases ha⟩, trivial⟩, ⟨List.forall_mem_cons.mpr ⟨ka_M_fit_135_0, fun a ha => by cases ha⟩, trivial⟩, trivial⟩).at h⟩
