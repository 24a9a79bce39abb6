theorem cH_person {E : xV} : CtOk E Yf GX JJ 7 ctH_person := lone_ok rfl ⟨by decide +kernel, fun pc as h => (by cases h)⟩
theorem cM_person_0 {E : xV} : CtOk E Yf GX JJ 312 ctM_person_0 := lone_ok rfl ⟨by decide +kernel, fun pc as h => (by cases h)⟩
theorem cM_person_1 {E : xV} : CtOk E Yf GX JJ 312 ctM_person_1 := lone_ok rfl ⟨by decide +kernel, fun pc as h => (by cases h)⟩

