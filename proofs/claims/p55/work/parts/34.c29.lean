theorem cH_move {E : xV} : CtOk E Yf GX JJ 39 ctH_move := lone_ok rfl ⟨by decide +kernel, fun pc as h => (by cases h)⟩
theorem kacaM_move_0_28_0 : chkA GX 3000 334 ctM_move_0 28 caM_move_0_28_0 = true := by decide +kernel
theorem cM_move_0 {E : xV} : CtOk E Yf GX JJ 334 ctM_move_0 := lone_ok rfl ⟨by decide +kernel, fun pc as h => (show BT.AllP (fun pc as => ∀ a ∈ as, chkA GX 3000 334 ctM_move_0 pc a = true) ctM_move_0.cut from ⟨⟨List.forall_mem_cons.mpr ⟨kacaM_move_0_28_0, fun a ha => by cases ha⟩, trivial⟩, trivial⟩).at h⟩
theorem kacaM_move_1_28_0 : chkA GX 3000 334 ctM_move_1 28 caM_move_1_28_0 = true := by decide +kernel
theorem cM_move_1 {E : xV} : CtOk E Yf GX JJ 334 ctM_move_1 := lone_ok rfl ⟨by decide +kernel, fun pc as h => (show BT.AllP (fun pc as => ∀ a ∈ as, chkA GX 3000 334 ctM_move_1 pc a = true) ctM_move_1.cut from ⟨⟨List.forall_mem_cons.mpr ⟨kacaM_move_1_28_0, fun a ha => by cases ha⟩, trivial⟩, trivial⟩).at h⟩
theorem cM_move_2 {E : xV} : CtOk E Yf GX JJ 334 ctM_move_2 := lone_ok rfl ⟨by decide +kernel, fun pc as h => (by cases h)⟩
theorem cM_move_3 {E : xV} : CtOk E Yf GX JJ 334 ctM_move_3 := lone_ok rfl ⟨by decide +kernel, fun pc as h => (by cases h)⟩
theorem cM_move_4 {E : xV} : CtOk E Yf GX JJ 334 ctM_move_4 := lone_ok rfl ⟨by decide +kernel, fun pc as h => (by cases h)⟩
theorem cM_move_5 {E : xV} : CtOk E Yf GX JJ 334 ctM_move_5 := lone_ok rfl ⟨by decide +kernel, fun pc as h => (by cases h)⟩
theorem cM_move_6 {E : xV} : CtOk E Yf GX JJ 334 ctM_move_6 := lone_ok rfl ⟨by decide +kernel, fun pc as h => (by cases h)⟩
theorem cM_move_7 {E : xV} : CtOk E Yf GX JJ 334 ctM_move_7 := lone_ok rfl ⟨by decide +kernel, fun pc as h => (by cases h)⟩
theorem cM_move_8 {E : xV} : CtOk E Yf GX JJ 334 ctM_move_8 := lone_ok rfl ⟨by decide +kernel, fun pc as h => (by cases h)⟩

