theorem cH_statement {E : xV} : CtOk E Yf GX JJ 224 ctH_statement := lone_ok rfl ⟨by decide +kernel, fun pc as h => (by cases h)⟩
theorem kacaM_statement_0_169_0 : chkA GX 3000 447 ctM_statement_0 169 caM_statement_0_169_0 = true := by decide +kernel
theorem cM_statement_0 {E : xV} : CtOk E Yf GX JJ 447 ctM_statement_0 := lone_ok rfl ⟨by decide +kernel, fun pc as h => (show BT.AllP (fun pc as => ∀ a ∈ as, chkA GX 3000 447 ctM_statement_0 pc a = true) ctM_statement_0.cut from ⟨⟨List.forall_mem_cons.mpr ⟨kacaM_statement_0_169_0, fun a ha => by cases ha⟩, trivial⟩, trivial⟩).at h⟩
theorem kacaM_statement_1_169_0 : chkA GX 3000 447 ctM_statement_1 169 caM_statement_1_169_0 = true := by decide +kernel
theorem cM_statement_1 {E : xV} : CtOk E Yf GX JJ 447 ctM_statement_1 := lone_ok rfl ⟨by decide +kernel, fun pc as h => (show BT.AllP (fun pc as => ∀ a ∈ as, chkA GX 3000 447 ctM_statement_1 pc a = true) ctM_statement_1.cut from ⟨⟨List.forall_mem_cons.mpr ⟨kacaM_statement_1_169_0, fun a ha => by cases ha⟩, trivial⟩, trivial⟩).at h⟩
theorem kacaM_statement_2_169_0 : chkA GX 3000 447 ctM_statement_2 169 caM_statement_2_169_0 = true := by decide +kernel
theorem cM_statement_2 {E : xV} : CtOk E Yf GX JJ 447 ctM_statement_2 := lone_ok rfl ⟨by decide +kernel, fun pc as h => (show BT.AllP (fun pc as => ∀ a ∈ as, chkA GX 3000 447 ctM_statement_2 pc a = true) ctM_statement_2.cut from ⟨⟨List.forall_mem_cons.mpr ⟨kacaM_statement_2_169_0, fun a ha => by cases ha⟩, trivial⟩, trivial⟩).at h⟩
theorem cM_statement_3 {E : xV} : CtOk E Yf GX JJ 447 ctM_statement_3 := lone_ok rfl ⟨by decide +kernel, fun pc as h => (by cases h)⟩
theorem cM_statement_4 {E : xV} : CtOk E Yf GX JJ 447 ctM_statement_4 := lone_ok rfl ⟨by decide +kernel, fun pc as h => (by cases h)⟩
theorem cM_statement_5 {E : xV} : CtOk E Yf GX JJ 447 ctM_statement_5 := lone_ok rfl ⟨by decide +kernel, fun pc as h => (by cases h)⟩
theorem cM_statement_6 {E : xV} : CtOk E Yf GX JJ 447 ctM_statement_6 := lone_ok rfl ⟨by decide +kernel, fun pc as h => (by cases h)⟩
theorem cM_statement_7 {E : xV} : CtOk E Yf GX JJ 447 ctM_statement_7 := lone_ok rfl ⟨by decide +kernel, fun pc as h => (by cases h)⟩
theorem cM_statement_8 {E : xV} : CtOk E Yf GX JJ 447 ctM_statement_8 := lone_ok rfl ⟨by decide +kernel, fun pc as h => (by cases h)⟩
theorem cM_statement_9 {E : xV} : CtOk E Yf GX JJ 447 ctM_statement_9 := lone_ok rfl ⟨by decide +kernel, fun pc as h => (by cases h)⟩
theorem cM_statement_10 {E : xV} : CtOk E Yf GX JJ 447 ctM_statement_10 := lone_ok rfl ⟨by decide +kernel, fun pc as h => (by cases h)⟩
theorem cM_statement_11 {E : xV} : CtOk E Yf GX JJ 447 ctM_statement_11 := lone_ok rfl ⟨by decide +kernel, fun pc as h => (by cases h)⟩
theorem cM_statement_12 {E : xV} : CtOk E Yf GX JJ 447 ctM_statement_12 := lone_ok rfl ⟨by decide +kernel, fun pc as h => (by cases h)⟩
theorem cM_statement_13 {E : xV} : CtOk E Yf GX JJ 447 ctM_statement_13 := lone_ok rfl ⟨by decide +kernel, fun pc as h => (by cases h)⟩
theorem cM_statement_14 {E : xV} : CtOk E Yf GX JJ 447 ctM_statement_14 := lone_ok rfl ⟨by decide +kernel, fun pc as h => (by cases h)⟩
theorem kacaM_statement_15_169_0 : chkA GX 3000 447 ctM_statement_15 169 caM_statement_15_169_0 = true := by decide +kernel
theorem cM_statement_15 {E : xV} : CtOk E Yf GX JJ 447 ctM_statement_15 := lone_ok rfl ⟨by decide +kernel, fun pc as h => (show BT.AllP (fun pc as => ∀ a ∈ as, chkA GX 3000 447 ctM_statement_15 pc a = true) ctM_statement_15.cut from ⟨⟨List.forall_mem_cons.mpr ⟨kacaM_statement_15_169_0, fun a ha => by cases ha⟩, trivial⟩, trivial⟩).at h⟩
theorem kacaM_statement_16_169_0 : chkA GX 3000 447 ctM_statement_16 169 caM_statement_16_169_0 = true := by decide +kernel
theorem cM_statement_16 {E : xV} : CtOk E Yf GX JJ 447 ctM_statement_16 := lone_ok rfl ⟨by decide +kernel, fun pc as h => (show BT.AllP (fun pc as => ∀ a ∈ as, chkA GX 3000 447 ctM_statement_16 pc a = true) ctM_statement_16.cut from ⟨⟨List.forall_mem_cons.mpr ⟨kacaM_statement_16_169_0, fun a ha => by cases ha⟩, trivial⟩, trivial⟩).at h⟩
theorem kacaM_statement_17_169_0 : chkA GX 3000 447 ctM_statement_17 169 caM_statement_17_169_0 = true := by decide +kernel
theorem cM_statement_17 {E : xV} : CtOk E Yf GX JJ 447 ctM_statement_17 := lone_ok rfl ⟨by decide +kernel, fun pc as h => (show BT.AllP (fun pc as => ∀ a ∈ as, chkA GX 3000 447 ctM_statement_17 pc a = true) ctM_statement_17.cut from ⟨⟨List.forall_mem_cons.mpr ⟨kacaM_statement_17_169_0, fun a ha => by cases ha⟩, trivial⟩, trivial⟩).at h⟩
theorem cM_statement_18 {E : xV} : CtOk E Yf GX JJ 447 ctM_statement_18 := lone_ok rfl ⟨by decide +kernel, fun pc as h => (by cases h)⟩
theorem cM_statement_19 {E : xV} : CtOk E Yf GX JJ 447 ctM_statement_19 := lone_ok rfl ⟨by decide +kernel, fun pc as h => (by cases h)⟩
theorem cM_statement_20 {E : xV} : CtOk E Yf GX JJ 447 ctM_statement_20 := lone_ok rfl ⟨by decide +kernel, fun pc as h => (by cases h)⟩
theorem cM_statement_21 {E : xV} : CtOk E Yf GX JJ 447 ctM_statement_21 := lone_ok rfl ⟨by decide +kernel, fun pc as h => (by cases h)⟩
theorem cM_statement_22 {E : xV} : CtOk E Yf GX JJ 447 ctM_statement_22 := lone_ok rfl ⟨by decide +kernel, fun pc as h => (by cases h)⟩
theorem cM_statement_23 {E : xV} : CtOk E Yf GX JJ 447 ctM_statement_23 := lone_ok rfl ⟨by decide +kernel, fun pc as h => (by cases h)⟩
theorem cM_statement_24 {E : xV} : CtOk E Yf GX JJ 447 ctM_statement_24 := lone_ok rfl ⟨by decide +kernel, fun pc as h => (by cases h)⟩
theorem cM_statement_25 {E : xV} : CtOk E Yf GX JJ 447 ctM_statement_25 := lone_ok rfl ⟨by decide +kernel, fun pc as h => (by cases h)⟩
theorem cM_statement_26 {E : xV} : CtOk E Yf GX JJ 447 ctM_statement_26 := lone_ok rfl ⟨by decide +kernel, fun pc as h => (by cases h)⟩
theorem cM_statement_27 {E : xV} : CtOk E Yf GX JJ 447 ctM_statement_27 := lone_ok rfl ⟨by decide +kernel, fun pc as h => (by cases h)⟩
theorem cM_statement_28 {E : xV} : CtOk E Yf GX JJ 447 ctM_statement_28 := lone_ok rfl ⟨by decide +kernel, fun pc as h => (by cases h)⟩
theorem cM_statement_29 {E : xV} : CtOk E Yf GX JJ 447 ctM_statement_29 := lone_ok rfl ⟨by decide +kernel, fun pc as h => (by cases h)⟩
theorem cM_statement_30 {E : xV} : CtOk E Yf GX JJ 447 ctM_statement_30 := lone_ok rfl ⟨by decide +kernel, fun pc as h => (by cases h)⟩
theorem cM_statement_31 {E : xV} : CtOk E Yf GX JJ 447 ctM_statement_31 := lone_ok rfl ⟨by decide +kernel, fun pc as h => (by cases h)⟩
theorem cH_erase {E : xV} : CtOk E Yf GX JJ 225 ctH_erase := lone_ok rfl ⟨by decide +kernel, fun pc as h => (by cases h)⟩
theorem cM_erase_0 {E : xV} : CtOk E Yf GX JJ 448 ctM_erase_0 := lone_ok rfl ⟨by decide +kernel, fun pc as h => (by cases h)⟩
theorem cH_lowered {E : xV} : CtOk E Yf GX JJ 231 ctH_lowered := lone_ok rfl ⟨by decide +kernel, fun pc as h => (by cases h)⟩
theorem kacaM_lowered_0_4_0 : chkA GX 3000 450 ctM_lowered_0 4 caM_lowered_0_4_0 = true := by decide +kernel
theorem cM_lowered_0 {E : xV} : CtOk E Yf GX JJ 450 ctM_lowered_0 := lone_ok rfl ⟨by decide +kernel, fun pc as h => (show BT.AllP (fun pc as => ∀ a ∈ as, chkA GX 3000 450 ctM_lowered_0 pc a = true) ctM_lowered_0.cut from ⟨⟨List.forall_mem_cons.mpr ⟨kacaM_lowered_0_4_0, fun a ha => by cases ha⟩, trivial⟩, trivial⟩).at h⟩
