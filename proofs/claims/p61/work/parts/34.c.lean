theorem cH_label {E : xV} : CtOk E Yf GX JJ 217 ctH_label := lone_ok rfl ⟨by decide +kernel, fun pc as h => (by cases h)⟩
theorem cM_label_0 {E : xV} : CtOk E Yf GX JJ 444 ctM_label_0 := lone_ok rfl ⟨by decide +kernel, fun pc as h => (by cases h)⟩
theorem cM_label_1 {E : xV} : CtOk E Yf GX JJ 444 ctM_label_1 := lone_ok rfl ⟨by decide +kernel, fun pc as h => (by cases h)⟩
theorem cM_label_2 {E : xV} : CtOk E Yf GX JJ 444 ctM_label_2 := lone_ok rfl ⟨by decide +kernel, fun pc as h => (by cases h)⟩
theorem cM_label_3 {E : xV} : CtOk E Yf GX JJ 444 ctM_label_3 := lone_ok rfl ⟨by decide +kernel, fun pc as h => (by cases h)⟩
theorem cM_label_4 {E : xV} : CtOk E Yf GX JJ 444 ctM_label_4 := lone_ok rfl ⟨by decide +kernel, fun pc as h => (by cases h)⟩
