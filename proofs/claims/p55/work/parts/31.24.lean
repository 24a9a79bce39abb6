theorem ka_M_switchOn_67_0 : chkA GX 3000 410 ct_M_switchOn 67 ca_M_switchOn_67_0 = true := by decide +kernel
theorem kk_M_switchOn : Chk GX 3000 410 ct_M_switchOn := ⟨ke_M_switchOn, fun pc as h => (show BT.AllP (fun pc as => ∀ a ∈ as, chkA GX 3000 410 ct_M_switchOn pc a = true) ct_M_switchOn.cut from ⟨⟨List.forall_mem_cons.mpr ⟨ka_M_switchOn_67_0, fun a ha => by cases ha⟩, trivial⟩, trivial⟩).at h⟩
theorem ke_M_switchOff : chkE GX 3000 411 ct_M_switchOff = true := by decide +kernel
theorem kk_M_switchOff : Chk GX 3000 411 ct_M_switchOff := ⟨ke_M_switchOff, fun pc as h => (show BT.AllP (fun pc as => ∀ a ∈ as, chkA GX 3000 411 ct_M_switchOff pc a = true) ct_M_switchOff.cut from trivial).at h⟩
theorem ke_M_askIn : chkE GX 3000 412 ct_M_askIn = true := by decide +kernel
theorem ka_M_askIn_63_0 : chkA GX 3000 412 ct_M_askIn 63 ca_M_askIn_63_0 = true := by decide +kernel
theorem kk_M_askIn : Chk GX 3000 412 ct_M_askIn := ⟨ke_M_askIn, fun pc as h => (show BT.AllP (fun pc as => ∀ a ∈ as, chkA GX 3000 412 ct_M_askIn pc a = true) ct_M_askIn.cut from ⟨⟨List.forall_mem_cons.mpr ⟨ka_M_askIn_63_0, fun a ha => by cases ha⟩, trivial⟩, trivial⟩).at h⟩
theorem ke_M_work : chkE GX 3000 413 ct_M_work = true := by decide +kernel
theorem kk_M_work : Chk GX 3000 413 ct_M_work := ⟨ke_M_work, fun pc as h => (show BT.AllP (fun pc as => ∀ a ∈ as, chkA GX 3000 413 ct_M_work pc a = true) ct_M_work.cut from trivial).at h⟩
theorem ke_M_step : chkE GX 3000 416 ct_M_step = true := by decide +kernel
theorem kk_M_step : Chk GX 3000 416 ct_M_step := ⟨ke_M_step, fun pc as h => (show BT.AllP (fun pc as => ∀ a ∈ as, chkA GX 3000 416 ct_M_step pc a = true) ct_M_step.cut from trivial).at h⟩
theorem ke_M_tie : chkE GX 3000 417 ct_M_tie = true := by decide +kernel
theorem kk_M_tie : Chk GX 3000 417 ct_M_tie := ⟨ke_M_tie, fun pc as h => (show BT.AllP (fun pc as => ∀ a ∈ as, chkA GX 3000 417 ct_M_tie pc a = true) ct_M_tie.cut from trivial).at h⟩
theorem ke_M_keepsTies : chkE GX 3000 418 ct_M_keepsTies = true := by decide +kernel
theorem ka_M_keepsTies_4_0 : chkA GX 3000 418 ct_M_keepsTies 4 ca_M_keepsTies_4_0 = true := by decide +kernel
theorem ka_M_keepsTies_45_0 : chkA GX 3000 418 ct_M_keepsTies 45 ca_M_keepsTies_45_0 = true := by decide +kernel
theorem ka_M_keepsTies_60_0 : chkA GX 3000 418 ct_M_keepsTies 60 ca_M_keepsTies_60_0 = true := by decide +kernel
theorem kk_M_keepsTies : Chk GX 3000 418 ct_M_keepsTies := ⟨ke_M_keepsTies, fun pc as h => (show BT.AllP (fun pc as => ∀ a ∈ as, chkA GX 3000 418 ct_M_keepsTies pc a = true) ct_M_keepsTies.cut from ⟨⟨List.forall_mem_cons.mpr ⟨ka_M_keepsTies_4_0, fun a ha => by cases ha⟩, trivial⟩, ⟨List.forall_mem_cons.mpr ⟨ka_M_keepsTies_45_0, fun a ha => by cases ha⟩, trivial⟩, ⟨List.forall_mem_cons.mpr ⟨ka_M_keepsTies_60_0, fun a ha => by cases ha⟩, trivial⟩, trivial⟩).at h⟩
theorem ke_M_searches : chkE GX 3000 419 ct_M_searches = true := by decide +kernel
theorem ka_M_searches_29_0 : chkA GX 3000 419 ct_M_searches 29 ca_M_searches_29_0 = true := by decide +kernel
theorem ka_M_searches_73_0 : chkA GX 3000 419 ct_M_searches 73 ca_M_searches_73_0 = true := by decide +kernel
theorem ka_M_searches_73_1 : chkA GX 3000 419 ct_M_searches 73 ca_M_searches_73_1 = true := by decide +kernel
theorem ka_M_searches_161_0 : chkA GX 3000 419 ct_M_searches 161 ca_M_searches_161_0 = true := by decide +kernel
theorem ka_M_searches_161_1 : chkA GX 3000 419 ct_M_searches 161 ca_M_searches_161_1 = true := by decide +kernel
theorem ka_M_searches_161_2 : chkA GX 3000 419 ct_M_searches 161 ca_M_searches_161_2 = true := by decide +kernel
theorem ka_M_searches_161_3 : chkA GX 3000 419 ct_M_searches 161 ca_M_searches_161_3 = true := by decide +kernel
theorem kk_M_searches : Chk GX 3000 419 ct_M_searches := ⟨ke_M_searches, fun pc as h => (show BT.AllP (fun pc as => ∀ a ∈ as, chkA GX 3000 419 ct_M_searches pc a = true) ct_M_searches.cut from ⟨⟨List.forall_mem_cons.mpr ⟨ka_M_searches_29_0, fun a ha => by cases ha⟩, trivial⟩, ⟨List.forall_mem_cons.mpr ⟨ka_M_searches_73_0, List.forall_mem_cons.mpr ⟨ka_M_searches_73_1, fun a ha => by cases ha⟩⟩, trivial⟩, ⟨List.forall_mem_cons.mpr ⟨ka_M_searches_161_0, List.forall_mem_cons.mpr ⟨ka_M_searches_161_1, List.forall_mem_cons.mpr ⟨ka_M_searches_161_2, List.forall_mem_cons.mpr ⟨ka_M_searches_161_3, fun a ha => by cases ha⟩⟩⟩⟩, trivial⟩, trivial⟩).at h⟩
theorem ke_M_setDone : chkE GX 3000 420 ct_M_setDone = true := by decide +kernel
theorem ka_M_setDone_2_0 : chkA GX 3000 420 ct_M_setDone 2 ca_M_setDone_2_0 = true := by decide +kernel
theorem kk_M_setDone : Chk GX 3000 420 ct_M_setDone := ⟨ke_M_setDone, fun pc as h => (show BT.AllP (fun pc as => ∀ a ∈ as, chkA GX 3000 420 ct_M_setDone pc a = true) ct_M_setDone.cut from ⟨⟨List.forall_mem_cons.mpr ⟨ka_M_setDone_2_0, fun a ha => by cases ha⟩, trivial⟩, trivial⟩).at h⟩
theorem ke_M_fill : chkE GX 3000 421 ct_M_fill = true := by decide +kernel
theorem ka_M_fill_39_0 : chkA GX 3000 421 ct_M_fill 39 ca_M_fill_39_0 = true := by decide +kernel
theorem kk_M_fill : Chk GX 3000 421 ct_M_fill := ⟨ke_M_fill, fun pc as h => (show BT.AllP (fun pc as => ∀ a ∈ as, chkA GX 3000 421 ct_M_fill pc a = true) ct_M_fill.cut from ⟨⟨List.forall_mem_cons.mpr ⟨ka_M_fill_39_0, fun a ha => by cases ha⟩, trivial⟩, trivial⟩).at h⟩
theorem ke_M_filled : chkE GX 3000 422 ct_M_filled = true := by decide +kernel
theorem kk_M_filled : Chk GX 3000 422 ct_M_filled := ⟨ke_M_filled, fun pc as h => (show BT.AllP (fun pc as => ∀ a ∈ as, chkA GX 3000 422 ct_M_filled pc a = true) ct_M_filled.cut from trivial).at h⟩
theorem ke_M_next : chkE GX 3000 424 ct_M_next = true := by decide +kernel
theorem kk_M_next : Chk GX 3000 424 ct_M_next := ⟨ke_M_next, fun pc as h => (show BT.AllP (fun pc as => ∀ a ∈ as, chkA GX 3000 424 ct_M_next pc a = true) ct_M_next.cut from trivial).at h⟩
theorem ke_M_perform : chkE GX 3000 425 ct_M_perform = true := by decide +kernel
theorem kk_M_perform : Chk GX 3000 425 ct_M_perform := ⟨ke_M_perform, fun pc as h => (show BT.AllP (fun pc as => ∀ a ∈ as, chkA GX 3000 425 ct_M_perform pc a = true) ct_M_perform.cut from trivial).at h⟩
theorem ke_M_needed : chkE GX 3000 426 ct_M_needed = true := by decide +kernel
theorem ka_M_needed_60_0 : chkA GX 3000 426 ct_M_needed 60 ca_M_needed_60_0 = true := by decide +kernel
theorem kk_M_needed : Chk GX 3000 426 ct_M_needed := ⟨ke_M_needed, fun pc as h => (show BT.AllP (fun pc as => ∀ a ∈ as, chkA GX 3000 426 ct_M_needed pc a = true) ct_M_needed.cut from ⟨⟨List.forall_mem_cons.mpr ⟨ka_M_needed_60_0, fun a ha => by cases ha⟩, trivial⟩, trivial⟩).at h⟩
theorem ke_M_tries : chkE GX 3000 427 ct_M_tries = true := by decide +kernel
theorem kk_M_tries : Chk GX 3000 427 ct_M_tries := ⟨ke_M_tries, fun pc as h => (show BT.AllP (fun pc as => ∀ a ∈ as, chkA GX 3000 427 ct_M_tries pc a = true) ct_M_tries.cut from trivial).at h⟩
theorem ke_M_lendOf : chkE GX 3000 437 ct_M_lendOf = true := by decide +kernel
theorem kk_M_lendOf : Chk GX 3000 437 ct_M_lendOf := ⟨ke_M_lendOf, fun pc as h => (show BT.AllP (fun pc as => ∀ a ∈ as, chkA GX 3000 437 ct_M_lendOf pc a = true) ct_M_lendOf.cut from trivial).at h⟩
theorem ke_M_gets : chkE GX 3000 438 ct_M_gets = true := by decide +kernel
theorem ka_M_gets_2_0 : chkA GX 3000 438 ct_M_gets 2 ca_M_gets_2_0 = true := by decide +kernel
theorem ka_M_gets_2_1 : chkA GX 3000 438 ct_M_gets 2 ca_M_gets_2_1 = true := by decide +kernel
theorem ka_M_gets_2_2 : chkA GX 3000 438 ct_M_gets 2 ca_M_gets_2_2 = true := by decide +kernel
theorem ka_M_gets_2_3 : chkA GX 3000 438 ct_M_gets 2 ca_M_gets_2_3 = true := by decide +kernel
theorem ka_M_gets_2_4 : chkA GX 3000 438 ct_M_gets 2 ca_M_gets_2_4 = true := by decide +kernel
theorem ka_M_gets_2_5 : chkA GX 3000 438 ct_M_gets 2 ca_M_gets_2_5 = true := by decide +kernel
theorem ka_M_gets_2_6 : chkA GX 3000 438 ct_M_gets 2 ca_M_gets_2_6 = true := by decide +kernel
theorem ka_M_gets_2_7 : chkA GX 3000 438 ct_M_gets 2 ca_M_gets_2_7 = true := by decide +kernel
