theorem cH_cutOffL9 {E : xV} : CtOk E Yf GXL9 JJL9 40 ctH_cutOffL9 := lone_okL9 rfl ⟨by decide +kernel, fun pc as h => (by cases h)⟩
theorem cM_cutOff_0L9 {E : xV} : CtOk E Yf GXL9 JJL9 335 ctM_cutOff_0L9 := lone_okL9 rfl ⟨by decide +kernel, fun pc as h => (by cases h)⟩
theorem cM_cutOff_1L9 {E : xV} : CtOk E Yf GXL9 JJL9 335 ctM_cutOff_1 := lone_okL9 rfl ⟨by decide +kernel, fun pc as h => (by cases h)⟩
theorem cM_cutOff_2L9 {E : xV} : CtOk E Yf GXL9 JJL9 335 ctM_cutOff_2L9 := lone_okL9 rfl ⟨by decide +kernel, fun pc as h => (by cases h)⟩
theorem cM_cutOff_3L9 {E : xV} : CtOk E Yf GXL9 JJL9 335 ctM_cutOff_3 := lone_okL9 rfl ⟨by decide +kernel, fun pc as h => (by cases h)⟩
theorem cM_cutOff_4L9 {E : xV} : CtOk E Yf GXL9 JJL9 335 ctM_cutOff_4 := lone_okL9 rfl ⟨by decide +kernel, fun pc as h => (by cases h)⟩
theorem cM_cutOff_5L9 {E : xV} : CtOk E Yf GXL9 JJL9 335 ctM_cutOff_5 := lone_okL9 rfl ⟨by decide +kernel, fun pc as h => (by cases h)⟩
