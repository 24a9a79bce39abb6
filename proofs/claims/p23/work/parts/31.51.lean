theorem kre_M_isRule : chkE GXo 3000 374 ctr_M_isRule = true := by decide +kernel
theorem kra_M_isRule_62_0 : chkA GXo 3000 374 ctr_M_isRule 62 car_M_isRule_62_0 = true := by decide +kernel
theorem kr_M_isRule : Chk GXo 3000 374 ctr_M_isRule := ⟨kre_M_isRule, fun pc as h => (show BT.AllP (fun pc as => ∀ a ∈ as, chkA GXo 3000 374 ctr_M_isRule pc a = true) ctr_M_isRule.cut from ⟨⟨List.forall_mem_cons.mpr ⟨kra_M_isRule_62_0, fun a ha => by cases ha⟩, trivial⟩, trivial⟩).at h⟩
