theorem cH_person {E : xV} : CtOk E Yf GX JJ 7 ctH_person := lone_ok rfl ⟨by decide +kernel, fun pc as h => (by cases h)⟩
theorem cM_person_0 {E : xV} : CtOk E Yf GX JJ 312 ctM_person_0 := lone_ok rfl ⟨by decide +kernel, fun pc as h => (by cases h)⟩
theorem cM_person_1 {E : xV} : CtOk E Yf GX JJ 312 ctM_person_1 := lone_ok rfl ⟨by decide +kernel, fun pc as h => (by cases h)⟩
theorem cH_thing {E : xV} : CtOk E Yf GX JJ 37 ctH_thing := lone_ok rfl ⟨by decide +kernel, fun pc as h => (by cases h)⟩
theorem cM_thing_0 {E : xV} : CtOk E Yf GX JJ 333 ctM_thing_0 := lone_ok rfl ⟨by decide +kernel, fun pc as h => (by cases h)⟩
theorem cM_thing_1 {E : xV} : CtOk E Yf GX JJ 333 ctM_thing_1 := lone_ok rfl ⟨by decide +kernel, fun pc as h => (by cases h)⟩
theorem cM_thing_2 {E : xV} : CtOk E Yf GX JJ 333 ctM_thing_2 := lone_ok rfl ⟨by decide +kernel, fun pc as h => (by cases h)⟩
theorem cM_thing_3 {E : xV} : CtOk E Yf GX JJ 333 ctM_thing_3 := lone_ok rfl ⟨by decide +kernel, fun pc as h => (by cases h)⟩
theorem cM_thing_4 {E : xV} : CtOk E Yf GX JJ 333 ctM_thing_4 := lone_ok rfl ⟨by decide +kernel, fun pc as h => (by cases h)⟩
theorem cM_thing_5 {E : xV} : CtOk E Yf GX JJ 333 ctM_thing_5 := lone_ok rfl ⟨by decide +kernel, fun pc as h => (by cases h)⟩
theorem cM_thing_6 {E : xV} : CtOk E Yf GX JJ 333 ctM_thing_6 := lone_ok rfl ⟨by decide +kernel, fun pc as h => (by cases h)⟩
theorem cM_thing_7 {E : xV} : CtOk E Yf GX JJ 333 ctM_thing_7 := lone_ok rfl ⟨by decide +kernel, fun pc as h => (by cases h)⟩
theorem cM_thing_8 {E : xV} : CtOk E Yf GX JJ 333 ctM_thing_8 := lone_ok rfl ⟨by decide +kernel, fun pc as h => (by cases h)⟩
theorem cH_move {E : xV} : CtOk E Yf GX JJ 39 ctH_move := lone_ok rfl ⟨by decide +kernel, fun pc as h => (by cases h)⟩
theorem kacaM_move_0_28_0 : chkA GX 3000 334 ctM_move_0 28 caM_move_0_28_0 = true := by decide +kernel
theorem cM_move_0 {E : xV} : CtOk E Yf GX JJ 334 ctM_move_0 := lone_ok rfl ⟨by decide +kernel, fun pc as h => (show BT.AllP (fun pc as => ∀ a ∈ as, chkA GX 3000 334 ctM_move_0 pc a = true) ctM_move_0.cut from ⟨⟨List.forall_mem_cons.mpr ⟨kacaM_move_0_28_0, fun a ha => by cases ha⟩, trivial⟩, trivial⟩).at h⟩
theorem kacaM_move_1_28_0 : chkA GX 3000 334 ctM_move_1 28 caM_move_1_28_0 = true := by decide +kernel
theorem cM_move_1 {E : xV} : CtOk E Yf GX JJ 334 ctM_move_1 := lone_ok rfl ⟨by decide +kernel, fun pc as h => (show BT.AllP (fun pc as => ∀ a ∈ as, chkA GX 3000 334 ctM_move_1 pc a = true) ctM_move_1.cut from ⟨⟨List.forall_mem_cons.mpr ⟨kacaM_move_1_28_0, fun a ha => by cases ha⟩, trivial⟩, trivial⟩).at h⟩
theorem cM_move_2 {E : xV} : CtOk E Yf GX JJ 334 ctM_move_2 := lone_ok rfl ⟨by decide +kernel, fun pc as h => (by cases h)⟩
theorem cM_move_3 {E : xV} : CtOk E Yf GX JJ 334 ctM_move_3 := lone_ok rfl ⟨by decide +kernel, fun pc as h => (by cases h)⟩
theorem cM_move_4 {E : xV} : CtOk E Yf GX JJ 334 ctM_move_4 := lone_ok rfl ⟨by decide +kernel, fun pc as h => (by cases h)⟩
theorem cM_move_5 {E : xV} : CtOk E Yf GX JJ 334 ctM_move_5 := lone_ok rfl ⟨by decide +kernel, fun pc as h => (by cases h)⟩
theorem cM_move_6 {E : xV} : CtOk E Yf GX JJ 334 ctM_move_6 := lone_ok rfl ⟨by decide +kernel, fun pc as h => (by cases h)⟩
theorem cM_move_7 {E : xV} : CtOk E Yf GX JJ 334 ctM_move_7 := lone_ok rfl ⟨by decide +kernel, fun pc as h => (by cases h)⟩
theorem cM_move_8 {E : xV} : CtOk E Yf GX JJ 334 ctM_move_8 := lone_ok rfl ⟨by decide +kernel, fun pc as h => (by cases h)⟩
theorem cH_cutOff {E : xV} : CtOk E Yf GX JJ 40 ctH_cutOff := lone_ok rfl ⟨by decide +kernel, fun pc as h => (by cases h)⟩
theorem cM_cutOff_0 {E : xV} : CtOk E Yf GX JJ 335 ctM_cutOff_0 := lone_ok rfl ⟨by decide +kernel, fun pc as h => (by cases h)⟩
theorem cM_cutOff_1 {E : xV} : CtOk E Yf GX JJ 335 ctM_cutOff_1 := lone_ok rfl ⟨by decide +kernel, fun pc as h => (by cases h)⟩
theorem cM_cutOff_2 {E : xV} : CtOk E Yf GX JJ 335 ctM_cutOff_2 := lone_ok rfl ⟨by decide +kernel, fun pc as h => (by cases h)⟩
theorem cM_cutOff_3 {E : xV} : CtOk E Yf GX JJ 335 ctM_cutOff_3 := lone_ok rfl ⟨by decide +kernel, fun pc as h => (by cases h)⟩
theorem cM_cutOff_4 {E : xV} : CtOk E Yf GX JJ 335 ctM_cutOff_4 := lone_ok rfl ⟨by decide +kernel, fun pc as h => (by cases h)⟩
theorem cM_cutOff_5 {E : xV} : CtOk E Yf GX JJ 335 ctM_cutOff_5 := lone_ok rfl ⟨by decide +kernel, fun pc as h => (by cases h)⟩
theorem cH_drop {E : xV} : CtOk E Yf GX JJ 42 ctH_drop := lone_ok rfl ⟨by decide +kernel, fun pc as h => (by cases h)⟩
theorem kacaM_drop_0_20_0 : chkA GX 3000 336 ctM_drop_0 20 caM_drop_0_20_0 = true := by decide +kernel
theorem kacaM_drop_0_20_1 : chkA GX 3000 336 ctM_drop_0 20 caM_drop_0_20_1 = true := by decide +kernel
theorem cM_drop_0 {E : xV} : CtOk E Yf GX JJ 336 ctM_drop_0 := lone_ok rfl ⟨by decide +kernel, fun pc as h => (show BT.AllP (fun pc as => ∀ a ∈ as, chkA GX 3000 336 ctM_drop_0 pc a = true) ctM_drop_0.cut from ⟨⟨List.forall_mem_cons.mpr ⟨kacaM_drop_0_20_0, List.forall_mem_cons.mpr ⟨kacaM_drop_0_20_1, fun a ha => by cases ha⟩⟩, trivial⟩, trivial⟩).at h⟩
theorem kacaM_drop_1_20_0 : chkA GX 3000 336 ctM_drop_1 20 caM_drop_1_20_0 = true := by decide +kernel
theorem kacaM_drop_1_20_1 : chkA GX 3000 336 ctM_drop_1 20 caM_drop_1_20_1 = true := by decide +kernel
theorem cM_drop_1 {E : xV} : CtOk E Yf GX JJ 336 ctM_drop_1 := lone_ok rfl ⟨by decide +kernel, fun pc as h => (show BT.AllP (fun pc as => ∀ a ∈ as, chkA GX 3000 336 ctM_drop_1 pc a = true) ctM_drop_1.cut from ⟨⟨List.forall_mem_cons.mpr ⟨kacaM_drop_1_20_0, List.forall_mem_cons.mpr ⟨kacaM_drop_1_20_1, fun a ha => by cases ha⟩⟩, trivial⟩, trivial⟩).at h⟩
theorem cM_drop_2 {E : xV} : CtOk E Yf GX JJ 336 ctM_drop_2 := lone_ok rfl ⟨by decide +kernel, fun pc as h => (by cases h)⟩
theorem cM_drop_3 {E : xV} : CtOk E Yf GX JJ 336 ctM_drop_3 := lone_ok rfl ⟨by decide +kernel, fun pc as h => (by cases h)⟩
theorem cM_drop_4 {E : xV} : CtOk E Yf GX JJ 336 ctM_drop_4 := lone_ok rfl ⟨by decide +kernel, fun pc as h => (by cases h)⟩
theorem cM_drop_5 {E : xV} : CtOk E Yf GX JJ 336 ctM_drop_5 := lone_ok rfl ⟨by decide +kernel, fun pc as h => (by cases h)⟩
