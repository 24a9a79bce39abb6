theorem cH_policy {E : xV} : CtOk E Yf GX JJ 105 ctH_policy := lone_GXo rfl ⟨by decide +kernel, fun pc as h => (by cases h)⟩
theorem cM_policy_0 {E : xV} : CtOk E Yf GX JJ 375 ctM_policy_0 := lone_GXo rfl ⟨by decide +kernel, fun pc as h => (by cases h)⟩
theorem cM_policy_1 {E : xV} : CtOk E Yf GX JJ 375 ctM_policy_1 := lone_GXo rfl ⟨by decide +kernel, fun pc as h => (by cases h)⟩
theorem kacaM_policy_2_60_0 : chkA GXo 3000 375 ctM_policy_2 60 caM_policy_2_60_0 = true := by decide +kernel
theorem kacaM_policy_2_60_1 : chkA GXo 3000 375 ctM_policy_2 60 caM_policy_2_60_1 = true := by decide +kernel
theorem kacaM_policy_2_60_2 : chkA GXo 3000 375 ctM_policy_2 60 caM_policy_2_60_2 = true := by decide +kernel
theorem kacaM_policy_2_60_3 : chkA GXo 3000 375 ctM_policy_2 60 caM_policy_2_60_3 = true := by decide +kernel
theorem cM_policy_2 {E : xV} : CtOk E Yf GX JJ 375 ctM_policy_2 := lone_GXo rfl ⟨by decide +kernel, fun pc as h => (show BT.AllP (fun pc as => ∀ a ∈ as, chkA GXo 3000 375 ctM_policy_2 pc a = true) ctM_policy_2.cut from ⟨⟨List.forall_mem_cons.mpr ⟨kacaM_policy_2_60_0, List.forall_mem_cons.mpr ⟨kacaM_policy_2_60_1, List.forall_mem_cons.mpr ⟨kacaM_policy_2_60_2, List.forall_mem_cons.mpr ⟨kacaM_policy_2_60_3, fun a ha => by cases ha⟩⟩⟩⟩, trivial⟩, trivial⟩).at h⟩
theorem kacaM_policy_3_60_0 : chkA GXo 3000 375 ctM_policy_3 60 caM_policy_3_60_0 = true := by decide +kernel
theorem kacaM_policy_3_60_1 : chkA GXo 3000 375 ctM_policy_3 60 caM_policy_3_60_1 = true := by decide +kernel
theorem kacaM_policy_3_60_2 : chkA GXo 3000 375 ctM_policy_3 60 caM_policy_3_60_2 = true := by decide +kernel
theorem kacaM_policy_3_60_3 : chkA GXo 3000 375 ctM_policy_3 60 caM_policy_3_60_3 = true := by decide +kernel
theorem cM_policy_3 {E : xV} : CtOk E Yf GX JJ 375 ctM_policy_3 := lone_GXo rfl ⟨by decide +kernel, fun pc as h => (show BT.AllP (fun pc as => ∀ a ∈ as, chkA GXo 3000 375 ctM_policy_3 pc a = true) ctM_policy_3.cut from ⟨⟨List.forall_mem_cons.mpr ⟨kacaM_policy_3_60_0, List.forall_mem_cons.mpr ⟨kacaM_policy_3_60_1, List.forall_mem_cons.mpr ⟨kacaM_policy_3_60_2, List.forall_mem_cons.mpr ⟨kacaM_policy_3_60_3, fun a ha => by cases ha⟩⟩⟩⟩, trivial⟩, trivial⟩).at h⟩
theorem cM_policy_4 {E : xV} : CtOk E Yf GX JJ 375 ctM_policy_4 := lone_GXo rfl ⟨by decide +kernel, fun pc as h => (by cases h)⟩

