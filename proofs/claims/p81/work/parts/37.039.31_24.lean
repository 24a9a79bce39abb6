theorem ka_M_switchOn_67_0L9 : chkA GXL9 3000 410 ct_M_switchOnL9 67 ca_M_switchOn_67_0L9 = true := by decide +kernel
theorem kk_M_switchOnL9 : Chk GXL9 3000 410 ct_M_switchOnL9 := ⟨ke_M_switchOnL9, fun pc as h => (show BT.AllP (fun pc as => ∀ a ∈ as, chkA GXL9 3000 410 ct_M_switchOnL9 pc a = true) ct_M_switchOnL9.cut from ⟨⟨List.forall_mem_cons.mpr ⟨ka_M_switchOn_67_0L9, fun a ha => by cases ha⟩, trivial⟩, trivial⟩).at h⟩
theorem ke_M_switchOffL9 : chkE GXL9 3000 411 ct_M_switchOffL9 = true := by decide +kernel
theorem kk_M_switchOffL9 : Chk GXL9 3000 411 ct_M_switchOffL9 := ⟨ke_M_switchOffL9, fun pc as h => (show BT.AllP (fun pc as => ∀ a ∈ as, chkA GXL9 3000 411 ct_M_switchOffL9 pc a = true) ct_M_switchOffL9.cut from trivial).at h⟩
theorem ke_M_askInL9 : chkE GXL9 3000 412 ct_M_askInL9 = true := by decide +kernel
theorem ka_M_askIn_63_0L9 : chkA GXL9 3000 412 ct_M_askInL9 63 ca_M_askIn_63_0L9 = true := by decide +kernel
theorem kk_M_askInL9 : Chk GXL9 3000 412 ct_M_askInL9 := ⟨ke_M_askInL9, fun pc as h => (show BT.AllP (fun pc as => ∀ a ∈ as, chkA GXL9 3000 412 ct_M_askInL9 pc a = true) ct_M_askInL9.cut from ⟨⟨List.forall_mem_cons.mpr ⟨ka_M_askIn_63_0L9, fun a ha => by cases ha⟩, trivial⟩, trivial⟩).at h⟩
theorem ke_M_workL9 : chkE GXL9 3000 413 ct_M_workL9 = true := by decide +kernel
theorem kk_M_workL9 : Chk GXL9 3000 413 ct_M_workL9 := ⟨ke_M_workL9, fun pc as h => (show BT.AllP (fun pc as => ∀ a ∈ as, chkA GXL9 3000 413 ct_M_workL9 pc a = true) ct_M_workL9.cut from trivial).at h⟩
theorem ke_M_stepL9 : chkE GXL9 3000 416 ct_M_stepL9 = true := by decide +kernel
theorem kk_M_stepL9 : Chk GXL9 3000 416 ct_M_stepL9 := ⟨ke_M_stepL9, fun pc as h => (show BT.AllP (fun pc as => ∀ a ∈ as, chkA GXL9 3000 416 ct_M_stepL9 pc a = true) ct_M_stepL9.cut from trivial).at h⟩
theorem ke_M_tieL9 : chkE GXL9 3000 417 ct_M_tieL9 = true := by decide +kernel
theorem kk_M_tieL9 : Chk GXL9 3000 417 ct_M_tieL9 := ⟨ke_M_tieL9, fun pc as h => (show BT.AllP (fun pc as => ∀ a ∈ as, chkA GXL9 3000 417 ct_M_tieL9 pc a = true) ct_M_tieL9.cut from trivial).at h⟩
theorem ke_M_keepsTiesL9 : chkE GXL9 3000 418 ct_M_keepsTiesL9 = true := by decide +kernel
theorem ka_M_keepsTies_4_0L9 : chkA GXL9 3000 418 ct_M_keepsTiesL9 4 ca_M_keepsTies_4_0L9 = true := by decide +kernel
theorem ka_M_keepsTies_45_0L9 : chkA GXL9 3000 418 ct_M_keepsTiesL9 45 ca_M_keepsTies_45_0 = true := by decide +kernel
theorem ka_M_keepsTies_60_0L9 : chkA GXL9 3000 418 ct_M_keepsTiesL9 60 ca_M_keepsTies_60_0 = true := by decide +kernel
theorem kk_M_keepsTiesL9 : Chk GXL9 3000 418 ct_M_keepsTiesL9 := ⟨ke_M_keepsTiesL9, fun pc as h => (show BT.AllP (fun pc as => ∀ a ∈ as, chkA GXL9 3000 418 ct_M_keepsTiesL9 pc a = true) ct_M_keepsTiesL9.cut from ⟨⟨List.forall_mem_cons.mpr ⟨ka_M_keepsTies_4_0L9, fun a ha => by cases ha⟩, trivial⟩, ⟨List.forall_mem_cons.mpr ⟨ka_M_keepsTies_45_0L9, fun a ha => by cases ha⟩, trivial⟩, ⟨List.forall_mem_cons.mpr ⟨ka_M_keepsTies_60_0L9, fun a ha => by cases ha⟩, trivial⟩, trivial⟩).at h⟩
theorem ke_M_searchesL9 : chkE GXL9 3000 419 ct_M_searchesL9 = true := by decide +kernel
theorem ka_M_searches_29_0L9 : chkA GXL9 3000 419 ct_M_searchesL9 29 ca_M_searches_29_0 = true := by decide +kernel
theorem ka_M_searches_73_0L9 : chkA GXL9 3000 419 ct_M_searchesL9 73 ca_M_searches_73_0L9 = true := by decide +kernel
theorem ka_M_searches_73_1L9 : chkA GXL9 3000 419 ct_M_searchesL9 73 ca_M_searches_73_1L9 = true := by decide +kernel
theorem ka_M_searches_161_0L9 : chkA GXL9 3000 419 ct_M_searchesL9 161 ca_M_searches_161_0L9 = true := by decide +kernel
theorem ka_M_searches_161_1L9 : chkA GXL9 3000 419 ct_M_searchesL9 161 ca_M_searches_161_1L9 = true := by decide +kernel
theorem ka_M_searches_161_2L9 : chkA GXL9 3000 419 ct_M_searchesL9 161 ca_M_searches_161_2L9 = true := by decide +kernel
theorem ka_M_searches_161_3L9 : chkA GXL9 3000 419 ct_M_searchesL9 161 ca_M_searches_161_3L9 = true := by decide +kernel
theorem kk_M_searchesL9 : Chk GXL9 3000 419 ct_M_searchesL9 := ⟨ke_M_searchesL9, fun pc as h => (show BT.AllP (fun pc as => ∀ a ∈ as, chkA GXL9 3000 419 ct_M_searchesL9 pc a = true) ct_M_searchesL9.cut from ⟨⟨List.forall_mem_cons.mpr ⟨ka_M_searches_29_0L9, fun a ha => by cases ha⟩, trivial⟩, ⟨List.forall_mem_cons.mpr ⟨ka_M_searches_73_0L9, List.forall_mem_cons.mpr ⟨ka_M_searches_73_1L9, fun a ha => by cases ha⟩⟩, trivial⟩, ⟨List.forall_mem_cons.mpr ⟨ka_M_searches_161_0L9, List.forall_mem_cons.mpr ⟨ka_M_searches_161_1L9, List.forall_mem_cons.mpr ⟨ka_M_searches_161_2L9, List.forall_mem_cons.mpr ⟨ka_M_searches_161_3L9, fun a ha => by cases ha⟩⟩⟩⟩, trivial⟩, trivial⟩).at h⟩
theorem ke_M_setDoneL9 : chkE GXL9 3000 420 ct_M_setDoneL9 = true := by decide +kernel
theorem ka_M_setDone_2_0L9 : chkA GXL9 3000 420 ct_M_setDoneL9 2 ca_M_setDone_2_0L9 = true := by decide +kernel
theorem kk_M_setDoneL9 : Chk GXL9 3000 420 ct_M_setDoneL9 := ⟨ke_M_setDoneL9, fun pc as h => (show BT.AllP (fun pc as => ∀ a ∈ as, chkA GXL9 3000 420 ct_M_setDoneL9 pc a = true) ct_M_setDoneL9.cut from ⟨⟨List.forall_mem_cons.mpr ⟨ka_M_setDone_2_0L9, fun a ha => by cases ha⟩, trivial⟩, trivial⟩).at h⟩
theorem ke_M_fillL9 : chkE GXL9 3000 421 ct_M_fillL9 = true := by decide +kernel
theorem ka_M_fill_39_0L9 : chkA GXL9 3000 421 ct_M_fillL9 39 ca_M_fill_39_0L9 = true := by decide +kernel
theorem kk_M_fillL9 : Chk GXL9 3000 421 ct_M_fillL9 := ⟨ke_M_fillL9, fun pc as h => (show BT.AllP (fun pc as => ∀ a ∈ as, chkA GXL9 3000 421 ct_M_fillL9 pc a = true) ct_M_fillL9.cut from ⟨⟨List.forall_mem_cons.mpr ⟨ka_M_fill_39_0L9, fun a ha => by cases ha⟩, trivial⟩, trivial⟩).at h⟩
theorem ke_M_filledL9 : chkE GXL9 3000 422 ct_M_filledL9 = true := by decide +kernel
theorem kk_M_filledL9 : Chk GXL9 3000 422 ct_M_filledL9 := ⟨ke_M_filledL9, fun pc as h => (show BT.AllP (fun pc as => ∀ a ∈ as, chkA GXL9 3000 422 ct_M_filledL9 pc a = true) ct_M_filledL9.cut from trivial).at h⟩
theorem ke_M_nextL9 : chkE GXL9 3000 424 ct_M_nextL9 = true := by decide +kernel
theorem kk_M_nextL9 : Chk GXL9 3000 424 ct_M_nextL9 := ⟨ke_M_nextL9, fun pc as h => (show BT.AllP (fun pc as => ∀ a ∈ as, chkA GXL9 3000 424 ct_M_nextL9 pc a = true) ct_M_nextL9.cut from trivial).at h⟩
theorem ke_M_performL9 : chkE GXL9 3000 425 ct_M_performL9 = true := by decide +kernel
theorem kk_M_performL9 : Chk GXL9 3000 425 ct_M_performL9 := ⟨ke_M_performL9, fun pc as h => (show BT.AllP (fun pc as => ∀ a ∈ as, chkA GXL9 3000 425 ct_M_performL9 pc a = true) ct_M_performL9.cut from trivial).at h⟩
theorem ke_M_neededL9 : chkE GXL9 3000 426 ct_M_neededL9 = true := by decide +kernel
theorem ka_M_needed_60_0L9 : chkA GXL9 3000 426 ct_M_neededL9 60 ca_M_needed_60_0L9 = true := by decide +kernel
theorem kk_M_neededL9 : Chk GXL9 3000 426 ct_M_neededL9 := ⟨ke_M_neededL9, fun pc as h => (show BT.AllP (fun pc as => ∀ a ∈ as, chkA GXL9 3000 426 ct_M_neededL9 pc a = true) ct_M_neededL9.cut from ⟨⟨List.forall_mem_cons.mpr ⟨ka_M_needed_60_0L9, fun a ha => by cases ha⟩, trivial⟩, trivial⟩).at h⟩
theorem ke_M_triesL9 : chkE GXL9 3000 427 ct_M_triesL9 = true := by decide +kernel
theorem kk_M_triesL9 : Chk GXL9 3000 427 ct_M_triesL9 := ⟨ke_M_triesL9, fun pc as h => (show BT.AllP (fun pc as => ∀ a ∈ as, chkA GXL9 3000 427 ct_M_triesL9 pc a = true) ct_M_triesL9.cut from trivial).at h⟩
theorem ke_M_chainL9 : chkE GXL9 3000 435 ct_M_chain = true := by decide +kernel
theorem kk_M_chainL9 : Chk GXL9 3000 435 ct_M_chain := ⟨ke_M_chainL9, fun pc as h => (show BT.AllP (fun pc as => ∀ a ∈ as, chkA GXL9 3000 435 ct_M_chain pc a = true) ct_M_chain.cut from trivial).at h⟩
theorem ke_M_lendOfL9 : chkE GXL9 3000 437 ct_M_lendOfL9 = true := by decide +kernel
theorem kk_M_lendOfL9 : Chk GXL9 3000 437 ct_M_lendOfL9 := ⟨ke_M_lendOfL9, fun pc as h => (show BT.AllP (fun pc as => ∀ a ∈ as, chkA GXL9 3000 437 ct_M_lendOfL9 pc a = true) ct_M_lendOfL9.cut from trivial).at h⟩
theorem ke_M_getsL9 : chkE GXL9 3000 438 ct_M_getsL9 = true := by decide +kernel
theorem ka_M_gets_2_0L9 : chkA GXL9 3000 438 ct_M_getsL9 2 ca_M_gets_2_0L9 = true := by decide +kernel
theorem ka_M_gets_2_1L9 : chkA GXL9 3000 438 ct_M_getsL9 2 ca_M_gets_2_1L9 = true := by decide +kernel
theorem ka_M_gets_2_2L9 : chkA GXL9 3000 438 ct_M_getsL9 2 ca_M_gets_2_2L9 = true := by decide +kernel
theorem ka_M_gets_2_3L9 : chkA GXL9 3000 438 ct_M_getsL9 2 ca_M_gets_2_3L9 = true := by decide +kernel
theorem ka_M_gets_2_4L9 : chkA GXL9 3000 438 ct_M_getsL9 2 ca_M_gets_2_4L9 = true := by decide +kernel
theorem ka_M_gets_2_5L9 : chkA GXL9 3000 438 ct_M_getsL9 2 ca_M_gets_2_5L9 = true := by decide +kernel
theorem ka_M_gets_2_6L9 : chkA GXL9 3000 438 ct_M_getsL9 2 ca_M_gets_2_6L9 = true := by decide +kernel
theorem ka_M_gets_2_7L9 : chkA GXL9 3000 438 ct_M_getsL9 2 ca_M_gets_2_7L9 = true := by decide +kernel
