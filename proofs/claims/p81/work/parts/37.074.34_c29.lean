theorem cH_moveL9 {E : xV} : CtOk E Yf GXL9 JJL9 39 ctH_moveL9 := lone_okL9 rfl ⟨by decide +kernel, fun pc as h => (by cases h)⟩
theorem kacaM_move_0_28_0L9 : chkA GXL9 3000 334 ctM_move_0L9 28 caM_move_0_28_0 = true := by decide +kernel
theorem cM_move_0L9 {E : xV} : CtOk E Yf GXL9 JJL9 334 ctM_move_0L9 := lone_okL9 rfl ⟨by decide +kernel, fun pc as h => (show BT.AllP (fun pc as => ∀ a ∈ as, chkA GXL9 3000 334 ctM_move_0L9 pc a = true) ctM_move_0L9.cut from ⟨⟨List.forall_mem_cons.mpr ⟨kacaM_move_0_28_0L9, fun a ha => by cases ha⟩, trivial⟩, trivial⟩).at h⟩
theorem kacaM_move_1_28_0L9 : chkA GXL9 3000 334 ctM_move_1L9 28 caM_move_1_28_0L9 = true := by decide +kernel
theorem cM_move_1L9 {E : xV} : CtOk E Yf GXL9 JJL9 334 ctM_move_1L9 := lone_okL9 rfl ⟨by decide +kernel, fun pc as h => (show BT.AllP (fun pc as => ∀ a ∈ as, chkA GXL9 3000 334 ctM_move_1L9 pc a = true) ctM_move_1L9.cut from ⟨⟨List.forall_mem_cons.mpr ⟨kacaM_move_1_28_0L9, fun a ha => by cases ha⟩, trivial⟩, trivial⟩).at h⟩
theorem cM_move_2L9 {E : xV} : CtOk E Yf GXL9 JJL9 334 ctM_move_2L9 := lone_okL9 rfl ⟨by decide +kernel, fun pc as h => (by cases h)⟩
theorem cM_move_3L9 {E : xV} : CtOk E Yf GXL9 JJL9 334 ctM_move_3L9 := lone_okL9 rfl ⟨by decide +kernel, fun pc as h => (by cases h)⟩
theorem cM_move_4L9 {E : xV} : CtOk E Yf GXL9 JJL9 334 ctM_move_4L9 := lone_okL9 rfl ⟨by decide +kernel, fun pc as h => (by cases h)⟩
theorem cM_move_5L9 {E : xV} : CtOk E Yf GXL9 JJL9 334 ctM_move_5L9 := lone_okL9 rfl ⟨by decide +kernel, fun pc as h => (by cases h)⟩
theorem cM_move_6L9 {E : xV} : CtOk E Yf GXL9 JJL9 334 ctM_move_6L9 := lone_okL9 rfl ⟨by decide +kernel, fun pc as h => (by cases h)⟩
theorem cM_move_7L9 {E : xV} : CtOk E Yf GXL9 JJL9 334 ctM_move_7L9 := lone_okL9 rfl ⟨by decide +kernel, fun pc as h => (by cases h)⟩
theorem cM_move_8L9 {E : xV} : CtOk E Yf GXL9 JJL9 334 ctM_move_8L9 := lone_okL9 rfl ⟨by decide +kernel, fun pc as h => (by cases h)⟩
