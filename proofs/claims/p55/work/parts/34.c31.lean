theorem cH_drop {E : xV} : CtOk E Yf GX JJ 42 ctH_drop := lone_ok rfl ⟨by decide +kernel, fun pc as h => (by cases h)⟩
theorem kacaM_drop_0_20_0 : chkA GX 3000 336 ctM_drop_0 20 caM_drop_0_20_0 = true := by decide +kernel
theorem kacaM_drop_0_20_1 : chkA GX 3000 336 ctM_drop_0 20 caM_drop_0_20_1 = true := by decide +kernel
theorem cM_drop_0 {E : xV} : CtOk E Yf GX JJ 336 ctM_drop_0 := lone_ok rfl ⟨by decide +kernel, fun pc as h => (show BT.AllP (fun pc as => ∀ a ∈ as, chkA GX 3000 336 ctM_drop_0 pc a = true) ctM_drop_0.cut from ⟨⟨List.forall_mem_cons.mpr ⟨kacaM_drop_0_20_0, List.forall_mem_cons.mpr ⟨kacaM_drop_0_20_1, fun a ha => by cases ha⟩⟩, trivial⟩, trivial⟩).at h⟩
theorem kacaM_drop_1_20_0 : chkA GX 3000 336 ctM_drop_1 20 caM_drop_1_20_0 = true := by decide +kernel
theorem kacaM_drop_1_20_1 : chkA GX 3000 336 ctM_drop_1 20 caM_drop_1_20_1 = true := by decide +kernel
theorem cM_drop_1 {E : xV} : CtOk E Yf GX JJ 336 ctM_drop_1 := lone_ok rfl ⟨by decide +kernel, fun pc as h => (show BT.AllP (fun pc as => ∀ a ∈ as, chkA GX 3000 336 ctM_drop_1 pc a = true) ctM_drop_1.cut from ⟨⟨List.forall_mem_cons.mpr ⟨kacaM_drop_1_20_0, List.forall_mem_cons.mpr ⟨kacaM_drop_1_20_1, fun a ha => by cases ha⟩⟩, trivial⟩, trivial⟩).at h⟩
theorem cM_drop_2 {E : xV} : CtOk E Yf GX JJ 336 ctM_drop_2 := lone_ok rfl ⟨by decide +kernel, fun pc as h => (by cases h)⟩
theorem cM_drop_3 {E : xV} : CtOk E Yf GX JJ 336 ctM_drop_3 := lone_ok rfl ⟨by decide +kernel, fun pc as h => (by cases h)⟩
theorem cM_drop_4 {E : xV} : CtOk E Yf GX JJ 336 ctM_drop_4 := lone_ok rfl ⟨by decide +kernel, fun pc as h => (by cases h)⟩
theorem cM_drop_5 {E : xV} : CtOk E Yf GX JJ 336 ctM_drop_5 := lone_ok rfl ⟨by decide +kernel, fun pc as h => (by cases h)⟩

