theorem cH_thing {E : xV} : CtOk E Yf GX JJ 37 ctH_thing := lone_ok rfl ⟨by decide +kernel, fun pc as h => (by cases h)⟩
theorem cM_thing_0 {E : xV} : CtOk E Yf GX JJ 333 ctM_thing_0 := lone_ok rfl ⟨by decide +kernel, fun pc as h => (by cases h)⟩
theorem cM_thing_1 {E : xV} : CtOk E Yf GX JJ 333 ctM_thing_1 := lone_ok rfl ⟨by decide +kernel, fun pc as h => (by cases h)⟩
theorem cM_thing_2 {E : xV} : CtOk E Yf GX JJ 333 ctM_thing_2 := lone_ok rfl ⟨by decide +kernel, fun pc as h => (by cases h)⟩
theorem cM_thing_3 {E : xV} : CtOk E Yf GX JJ 333 ctM_thing_3 := lone_ok rfl ⟨by decide +kernel, fun pc as h => (by cases h)⟩
theorem cM_thing_4 {E : xV} : CtOk E Yf GX JJ 333 ctM_thing_4 := lone_ok rfl ⟨by decide +kernel, fun pc as h => (by cases h)⟩
theorem cM_thing_5 {E : xV} : CtOk E Yf GX JJ 333 ctM_thing_5 := lone_ok rfl ⟨by decide +kernel, fun pc as h => (by cases h)⟩
theorem cM_thing_6 {E : xV} : CtOk E Yf GX JJ 333 ctM_thing_6 := lone_ok rfl ⟨by decide +kernel, fun pc as h => (by cases h)⟩
theorem cM_thing_7 {E : xV} : CtOk E Yf GX JJ 333 ctM_thing_7 := lone_ok rfl ⟨by decide +kernel, fun pc as h => (by cases h)⟩
theorem cM_thing_8 {E : xV} : CtOk E Yf GX JJ 333 ctM_thing_8 := lone_ok rfl ⟨by decide +kernel, fun pc as h => (by cases h)⟩

