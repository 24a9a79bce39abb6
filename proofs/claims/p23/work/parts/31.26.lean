theorem kra_F_M_pack_18_0 : chkA GXo 3000 293 ctr_F_M_pack 18 car_F_M_pack_18_0 = true := by decide +kernel
theorem kr_F_M_pack : Chk GXo 3000 293 ctr_F_M_pack := ⟨kre_F_M_pack, fun pc as h => (show BT.AllP (fun pc as => ∀ a ∈ as, chkA GXo 3000 293 ctr_F_M_pack pc a = true) ctr_F_M_pack.cut from ⟨⟨List.forall_mem_cons.mpr ⟨kra_F_M_pack_18_0, fun a ha => by cases ha⟩, trivial⟩, trivial⟩).at h⟩
theorem kre_F_M_fit : chkE GXo 3000 294 ctr_F_M_fit = true := by decide +kernel
theorem kra_F_M_fit_23_0 : chkA GXo 3000 294 ctr_F_M_fit 23 car_F_M_fit_23_0 = true := by decide +kernel
theorem kra_F_M_fit_135_0 : chkA GXo 3000 294 ctr_F_M_fit 135 car_F_M_fit_135_0 = true := by decide +kernel
theorem kr_F_M_fit : Chk GXo 3000 294 ctr_F_M_fit := ⟨kre_F_M_fit, fun pc as h => (show BT.AllP (fun pc as => ∀ a ∈ as, chkA GXo 3000 294 ctr_F_M_fit pc a = true) ctr_F_M_fit.cut from ⟨⟨List.forall_mem_cons.mpr ⟨kra_F_M_fit_23_0, fun a ha => by cases ha⟩, trivial⟩, ⟨List.forall_mem_cons.mpr ⟨kra_F_M_fit_135_0, fun a ha => by cases ha⟩, trivial⟩, trivial⟩).at h⟩
theorem kre_F_M_ofWhole : chkE GXo 3000 295 ctr_F_M_ofWhole = true := by decide +kernel
theorem kr_F_M_ofWhole : Chk GXo 3000 295 ctr_F_M_ofWhole := ⟨kre_F_M_ofWhole, fun pc as h => (show BT.AllP (fun pc as => ∀ a ∈ as, chkA GXo 3000 295 ctr_F_M_ofWhole pc a = true) ctr_F_M_ofWhole.cut from trivial).at h⟩
theorem kre_F_M_over : chkE GXo 3000 299 ctr_F_M_over = true := by decide +kernel
theorem kra_F_M_over_157_0 : chkA GXo 3000 299 ctr_F_M_over 157 car_F_M_over_157_0 = true := by decide +kernel
