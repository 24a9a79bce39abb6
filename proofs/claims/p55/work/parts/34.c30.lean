theorem cH_cutOff {E : xV} : CtOk E Yf GX JJ 40 ctH_cutOff := lone_ok rfl ⟨by decide +kernel, fun pc as h => (by cases h)⟩
theorem cM_cutOff_0 {E : xV} : CtOk E Yf GX JJ 335 ctM_cutOff_0 := lone_ok rfl ⟨by decide +kernel, fun pc as h => (by cases h)⟩
theorem cM_cutOff_1 {E : xV} : CtOk E Yf GX JJ 335 ctM_cutOff_1 := lone_ok rfl ⟨by decide +kernel, fun pc as h => (by cases h)⟩
theorem cM_cutOff_2 {E : xV} : CtOk E Yf GX JJ 335 ctM_cutOff_2 := lone_ok rfl ⟨by decide +kernel, fun pc as h => (by cases h)⟩
theorem cM_cutOff_3 {E : xV} : CtOk E Yf GX JJ 335 ctM_cutOff_3 := lone_ok rfl ⟨by decide +kernel, fun pc as h => (by cases h)⟩
theorem cM_cutOff_4 {E : xV} : CtOk E Yf GX JJ 335 ctM_cutOff_4 := lone_ok rfl ⟨by decide +kernel, fun pc as h => (by cases h)⟩
theorem cM_cutOff_5 {E : xV} : CtOk E Yf GX JJ 335 ctM_cutOff_5 := lone_ok rfl ⟨by decide +kernel, fun pc as h => (by cases h)⟩

