theorem cH_person {E : xV} : CtOk E Yf GX JJ 7 ctH_person := lone_ok rfl ⟨by decide +kernel, fun pc as h => (by cases h)⟩
theorem cM_person_0 {E : xV} : CtOk E Yf GX JJ 312 ctM_person_0 := lone_ok rfl ⟨by decide +kernel, fun pc as h => (by cases h)⟩
theorem cM_person_1 {E : xV} : CtOk E Yf GX JJ 312 ctM_person_1 := lone_ok rfl ⟨by decide +kernel, fun pc as h => (by cases h)⟩
theorem cH_guarded {E : xV} : CtOk E Yf GX JJ 242 ctH_guarded := lone_ok rfl ⟨by decide +kernel, fun pc as h => (by cases h)⟩
theorem cM_guarded_0 {E : xV} : CtOk E Yf GX JJ 456 ctM_guarded_0 := lone_ok rfl ⟨by decide +kernel, fun pc as h => (by cases h)⟩
theorem cM_guarded_1 {E : xV} : CtOk E Yf GX JJ 456 ctM_guarded_1 := lone_ok rfl ⟨by decide +kernel, fun pc as h => (by cases h)⟩
theorem cM_guarded_2 {E : xV} : CtOk E Yf GX JJ 456 ctM_guarded_2 := lone_ok rfl ⟨by decide +kernel, fun pc as h => (by cases h)⟩
