theorem cH_personL9 {E : xV} : CtOk E Yf GXL9 JJL9 7 ctH_person := lone_okL9 rfl ⟨by decide +kernel, fun pc as h => (by cases h)⟩
theorem cM_person_0L9 {E : xV} : CtOk E Yf GXL9 JJL9 312 ctM_person_0 := lone_okL9 rfl ⟨by decide +kernel, fun pc as h => (by cases h)⟩
theorem cM_person_1L9 {E : xV} : CtOk E Yf GXL9 JJL9 312 ctM_person_1 := lone_okL9 rfl ⟨by decide +kernel, fun pc as h => (by cases h)⟩
