theorem cH_dropL9 {E : xV} : CtOk E Yf GXL9 JJL9 42 ctH_dropL9 := lone_okL9 rfl ⟨by decide +kernel, fun pc as h => (by cases h)⟩
theorem kacaM_drop_0_20_0L9 : chkA GXL9 3000 336 ctM_drop_0L9 20 caM_drop_0_20_0 = true := by decide +kernel
theorem kacaM_drop_0_20_1L9 : chkA GXL9 3000 336 ctM_drop_0L9 20 caM_drop_0_20_1 = true := by decide +kernel
theorem cM_drop_0L9 {E : xV} : CtOk E Yf GXL9 JJL9 336 ctM_drop_0L9 := lone_okL9 rfl ⟨by decide +kernel, fun pc as h => (show BT.AllP (fun pc as => ∀ a ∈ as, chkA GXL9 3000 336 ctM_drop_0L9 pc a = true) ctM_drop_0L9.cut from ⟨⟨List.forall_mem_cons.mpr ⟨kacaM_drop_0_20_0L9, List.forall_mem_cons.mpr ⟨kacaM_drop_0_20_1L9, fun a ha => by cases ha⟩⟩, trivial⟩, trivial⟩).at h⟩
theorem kacaM_drop_1_20_0L9 : chkA GXL9 3000 336 ctM_drop_1L9 20 caM_drop_1_20_0L9 = true := by decide +kernel
theorem kacaM_drop_1_20_1L9 : chkA GXL9 3000 336 ctM_drop_1L9 20 caM_drop_1_20_1L9 = true := by decide +kernel
theorem cM_drop_1L9 {E : xV} : CtOk E Yf GXL9 JJL9 336 ctM_drop_1L9 := lone_okL9 rfl ⟨by decide +kernel, fun pc as h => (show BT.AllP (fun pc as => ∀ a ∈ as, chkA GXL9 3000 336 ctM_drop_1L9 pc a = true) ctM_drop_1L9.cut from ⟨⟨List.forall_mem_cons.mpr ⟨kacaM_drop_1_20_0L9, List.forall_mem_cons.mpr ⟨kacaM_drop_1_20_1L9, fun a ha => by cases ha⟩⟩, trivial⟩, trivial⟩).at h⟩
theorem cM_drop_2L9 {E : xV} : CtOk E Yf GXL9 JJL9 336 ctM_drop_2L9 := lone_okL9 rfl ⟨by decide +kernel, fun pc as h => (by cases h)⟩
theorem cM_drop_3L9 {E : xV} : CtOk E Yf GXL9 JJL9 336 ctM_drop_3L9 := lone_okL9 rfl ⟨by decide +kernel, fun pc as h => (by cases h)⟩
theorem cM_drop_4L9 {E : xV} : CtOk E Yf GXL9 JJL9 336 ctM_drop_4L9 := lone_okL9 rfl ⟨by decide +kernel, fun pc as h => (by cases h)⟩
theorem cM_drop_5L9 {E : xV} : CtOk E Yf GXL9 JJL9 336 ctM_drop_5L9 := lone_okL9 rfl ⟨by decide +kernel, fun pc as h => (by cases h)⟩
