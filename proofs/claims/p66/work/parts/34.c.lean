theorem cH_given {E : xV} : CtOk E Yf GX JJ 232 ctH_given := lone_ok rfl ⟨by decide +kernel, fun pc as h => (by cases h)⟩
theorem cM_given_0 {E : xV} : CtOk E Yf GX JJ 451 ctM_given_0 := lone_ok rfl ⟨by decide +kernel, fun pc as h => (by cases h)⟩
theorem cM_given_1 {E : xV} : CtOk E Yf GX JJ 451 ctM_given_1 := lone_ok rfl ⟨by decide +kernel, fun pc as h => (by cases h)⟩
theorem cM_given_2 {E : xV} : CtOk E Yf GX JJ 451 ctM_given_2 := lone_ok rfl ⟨by decide +kernel, fun pc as h => (by cases h)⟩
