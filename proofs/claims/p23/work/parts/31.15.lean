theorem kre_F_Re_ofWhole : chkE GXo 3000 55 ctr_F_Re_ofWhole = true := by decide +kernel
theorem kr_F_Re_ofWhole : Chk GXo 3000 55 ctr_F_Re_ofWhole := ⟨kre_F_Re_ofWhole, fun pc as h => (show BT.AllP (fun pc as => ∀ a ∈ as, chkA GXo 3000 55 ctr_F_Re_ofWhole pc a = true) ctr_F_Re_ofWhole.cut from trivial).at h⟩
theorem kre_F_Re_shortage : chkE GXo 3000 59 ctr_F_Re_shortage = true := by decide +kernel
theorem kra_F_Re_shortage_2_0 : chkA GXo 3000 59 ctr_F_Re_shortage 2 car_F_Re_shortage_2_0 = true := by decide +kernel
theorem kr_F_Re_shortage : Chk GXo 3000 59 ctr_F_Re_shortage := ⟨kre_F_Re_shortage, fun pc as h => (show BT.AllP (fun pc as => ∀ a ∈ as, chkA GXo 3000 59 ctr_F_Re_shortage pc a = true) ctr_F_Re_shortage.cut from ⟨⟨List.forall_mem_cons.mpr ⟨kra_F_Re_shortage_2_0, fun a ha => by cases ha⟩, trivial⟩, trivial⟩).at h⟩
theorem kre_F_Re_over : chkE GXo 3000 61 ctr_F_Re_over = true := by decide +kernel
theorem kra_F_Re_over_135_0 : chkA GXo 3000 61 ctr_F_Re_over 135 car_F_Re_over_135_0 = true := by decide +kernel
theorem kr_F_Re_over : Chk GXo 3000 61 ctr_F_Re_over := ⟨kre_F_Re_over, fun pc as h => (show BT.AllP (fun pc as => ∀ a ∈ as, chkA GXo 3000 61 ctr_F_Re_over pc a = true) ctr_F_Re_over.cut from ⟨⟨List.forall_mem_cons.mpr ⟨kra_F_Re_over_135_0, fun a ha => by cases ha⟩, trivial⟩, trivial⟩).at h⟩
theorem kre_Po_splitNumber : chkE GXo 3000 62 ctr_Po_splitNumber = true := by decide +kernel
theorem kra_Po_splitNumber_15_0 : chkA GXo 3000 62 ctr_Po_splitNumber 15 car_Po_splitNumber_15_0 = true := by decide +kernel
theorem kra_Po_splitNumber_15_1 : chkA GXo 3000 62 ctr_Po_splitNumber 15 car_Po_splitNumber_15_1 = true := by decide +kernel
theorem kra_Po_splitNumber_15_2 : chkA GXo 3000 62 ctr_Po_splitNumber 15 car_Po_splitNumber_15_2 = true := by decide +kernel
theorem kra_Po_splitNumber_15_3 : chkA GXo 3000 62 ctr_Po_splitNumber 15 car_Po_splitNumber_15_3 = true := by decide +kernel
theorem kra_Po_splitNumber_15_4 : chkA GXo 3000 62 ctr_Po_splitNumber 15 car_Po_splitNumber_15_4 = true := by decide +kernel
theorem kra_Po_splitNumber_15_5 : chkA GXo 3000 62 ctr_Po_splitNumber 15 car_Po_splitNumber_15_5 = true := by decide +kernel
theorem kra_Po_splitNumber_15_6 : chkA GXo 3000 62 ctr_Po_splitNumber 15 car_Po_splitNumber_15_6 = true := by decide +kernel
theorem kra_Po_splitNumber_15_7 : chkA GXo 3000 62 ctr_Po_splitNumber 15 car_Po_splitNumber_15_7 = true := by decide +kernel
