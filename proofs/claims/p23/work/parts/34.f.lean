theorem cH_group {E : xV} : CtOk E Yf GX JJ 8 ctH_group := lone_ok rfl ⟨by decide +kernel, fun pc as h => (by cases h)⟩
theorem cM_group_0 {E : xV} : CtOk E Yf GX JJ 313 ctM_group_0 := lone_ok rfl ⟨by decide +kernel, fun pc as h => (by cases h)⟩
theorem cM_group_1 {E : xV} : CtOk E Yf GX JJ 313 ctM_group_1 := lone_ok rfl ⟨by decide +kernel, fun pc as h => (by cases h)⟩

