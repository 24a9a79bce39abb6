theorem ke_M_could : chkE GX 3000 398 ct_M_could = true := by decide +kernel
theorem kk_M_could : Chk GX 3000 398 ct_M_could := ⟨ke_M_could, fun pc as h => (show BT.AllP (fun pc as => ∀ a ∈ as, chkA GX 3000 398 ct_M_could pc a = true) ct_M_could.cut from trivial).at h⟩
theorem ke_M_compare : chkE GX 3000 399 ct_M_compare = true := by decide +kernel
theorem ka_M_compare_50_0 : chkA GX 3000 399 ct_M_compare 50 ca_M_compare_50_0 = true := by decide +kernel
theorem ka_M_compare_91_0 : chkA GX 3000 399 ct_M_compare 91 ca_M_compare_91_0 = true := by decide +kernel
theorem ka_M_compare_117_0 : chkA GX 3000 399 ct_M_compare 117 ca_M_compare_117_0 = true := by decide +kernel
theorem ka_M_compare_127_0 : chkA GX 3000 399 ct_M_compare 127 ca_M_compare_127_0 = true := by decide +kernel
theorem kk_M_compare : Chk GX 3000 399 ct_M_compare := ⟨ke_M_compare, fun pc as h => (show BT.AllP (fun pc as => ∀ a ∈ as, chkA GX 3000 399 ct_M_compare pc a = true) ct_M_compare.cut from ⟨⟨List.forall_mem_cons.mpr ⟨ka_M_compare_50_0, fun a ha => by cases ha⟩, List.forall_mem_cons.mpr ⟨ka_M_compare_91_0, fun a ha => by cases ha⟩, trivial⟩, ⟨List.forall_mem_cons.mpr ⟨ka_M_compare_117_0, fun a ha => by cases ha⟩, List.forall_mem_cons.mpr ⟨ka_M_compare_127_0, fun a ha => by cases ha⟩, trivial⟩, trivial⟩).at h⟩
theorem ke_M_compared : chkE GX 3000 400 ct_M_compared = true := by decide +kernel
theorem kk_M_compared : Chk GX 3000 400 ct_M_compared := ⟨ke_M_compared, fun pc as h => (show BT.AllP (fun pc as => ∀ a ∈ as, chkA GX 3000 400 ct_M_compared pc a = true) ct_M_compared.cut from trivial).at h⟩
theorem ke_M_decides : chkE GX 3000 401 ct_M_decides = true := by decide +kernel
theorem ka_M_decides_55_0 : chkA GX 3000 401 ct_M_decides 55 ca_M_decides_55_0 = true := by decide +kernel
theorem ka_M_decides_81_0 : chkA GX 3000 401 ct_M_decides 81 ca_M_decides_81_0 = true := by decide +kernel
theorem ka_M_decides_91_0 : chkA GX 3000 401 ct_M_decides 91 ca_M_decides_91_0 = true := by decide +kernel
theorem kk_M_decides : Chk GX 3000 401 ct_M_decides := ⟨ke_M_decides, fun pc as h => (show BT.AllP (fun pc as => ∀ a ∈ as, chkA GX 3000 401 ct_M_decides pc a = true) ct_M_decides.cut from ⟨⟨List.forall_mem_cons.mpr ⟨ka_M_decides_55_0, fun a ha => by cases ha⟩, trivial⟩, ⟨List.forall_mem_cons.mpr ⟨ka_M_decides_81_0, fun a ha => by cases ha⟩, trivial⟩, ⟨List.forall_mem_cons.mpr ⟨ka_M_decides_91_0, fun a ha => by cases ha⟩, trivial⟩, trivial⟩).at h⟩
theorem ke_M_keepsLaw : chkE GX 3000 403 ct_M_keepsLaw = true := by decide +kernel
theorem ka_M_keepsLaw_30_0 : chkA GX 3000 403 ct_M_keepsLaw 30 ca_M_keepsLaw_30_0 = true := by decide +kernel
theorem ka_M_keepsLaw_96_0 : chkA GX 3000 403 ct_M_keepsLaw 96 ca_M_keepsLaw_96_0 = true := by decide +kernel
theorem kk_M_keepsLaw : Chk GX 3000 403 ct_M_keepsLaw := ⟨ke_M_keepsLaw, fun pc as h => (show BT.AllP (fun pc as => ∀ a ∈ as, chkA GX 3000 403 ct_M_keepsLaw pc a = true) ct_M_keepsLaw.cut from ⟨⟨List.forall_mem_cons.mpr ⟨ka_M_keepsLaw_30_0, fun a ha => by cases ha⟩, trivial⟩, ⟨List.forall_mem_cons.mpr ⟨ka_M_keepsLaw_96_0, fun a ha => by cases ha⟩, trivial⟩, trivial⟩).at h⟩
theorem ke_M_broken : chkE GX 3000 407 ct_M_broken = true := by decide +kernel
theorem kk_M_broken : Chk GX 3000 407 ct_M_broken := ⟨ke_M_broken, fun pc as h => (show BT.AllP (fun pc as => ∀ a ∈ as, chkA GX 3000 407 ct_M_broken pc a = true) ct_M_broken.cut from trivial).at h⟩
theorem ke_M_breach : chkE GX 3000 408 ct_M_breach = true := by decide +kernel
theorem ka_M_breach_18_0 : chkA GX 3000 408 ct_M_breach 18 ca_M_breach_18_0 = true := by decide +kernel
theorem kk_M_breach : Chk GX 3000 408 ct_M_breach := ⟨ke_M_breach, fun pc as h => (show BT.AllP (fun pc as => ∀ a ∈ as, chkA GX 3000 408 ct_M_breach pc a = true) ct_M_breach.cut from ⟨⟨List.forall_mem_cons.mpr ⟨ka_M_breach_18_0, fun a ha => by cases ha⟩, trivial⟩, trivial⟩).at h⟩
theorem ke_M_session : chkE GX 3000 409 ct_M_session = true := by decide +kernel
theorem kk_M_session : Chk GX 3000 409 ct_M_session := ⟨ke_M_session, fun pc as h => (show BT.AllP (fun pc as => ∀ a ∈ as, chkA GX 3000 409 ct_M_session pc a = true) ct_M_session.cut from trivial).at h⟩
theorem ke_M_switchOn : chkE GX 3000 410 ct_M_switchOn = true := by decide +kernel
theorem ka_M_switchOn_67_0 : chkA GX 3000 410 ct_M_switchOn 67 ca_M_switchOn_67_0 = true := by decide +kernel
theorem kk_M_switchOn : Chk GX 3000 410 ct_M_switchOn := ⟨ke_M_switchOn, fun pc as h => (show BT.AllP (fun pc as => ∀ a ∈ as, chkA GX 3000 410 ct_M_switchOn pc a = true) ct_M_switchOn.cut from ⟨⟨List.forall_mem_cons.mpr ⟨ka_M_switchOn_67_0, fun a ha => by cases ha⟩, trivial⟩, trivial⟩).at h⟩
theorem ke_M_switchOff : chkE GX 3000 411 ct_M_switchOff = true := by decide +kernel
theorem kk_M_switchOff : Chk GX 3000 411 ct_M_switchOff := ⟨ke_M_switchOff, fun pc as h => (show BT.AllP (fun pc as => ∀ a ∈ as, chkA GX 3000 411 ct_M_switchOff pc a = true) ct_M_switchOff.cut from trivial).at h⟩
theorem ke_M_askIn : chkE GX 3000 412 ct_M_askIn = true := by decide +kernel
theorem ka_M_askIn_63_0 : chkA GX 3000 412 ct_M_askIn 63 ca_M_askIn_63_0 = true := by decide +kernel
theorem kk_M_askIn : Chk GX 3000 412 ct_M_askIn := ⟨ke_M_askIn, fun pc as h => (show BT.AllP (fun pc as => ∀ a ∈ as, chkA GX 3000 412 ct_M_askIn pc a = true) ct_M_askIn.cut from ⟨⟨List.forall_mem_cons.mpr ⟨ka_M_askIn_63_0, fun a ha => by cases ha⟩, trivial⟩, trivial⟩).at h⟩
theorem ke_M_work : chkE GX 3000 413 ct_M_work = true := by decide +kernel
theorem kk_M_work : Chk GX 3000 413 ct_M_work := ⟨ke_M_work, fun pc as h => (show BT.AllP (fun pc as => ∀ a ∈ as, chkA GX 3000 413 ct_M_work pc a = true) ct_M_work.cut from trivial).at h⟩
theorem ke_M_step : chkE GX 3000 416 ct_M_step = true := by decide +kernel
theorem kk_M_step : Chk GX 3000 416 ct_M_step := ⟨ke_M_step, fun pc as h => (show BT.AllP (fun pc as => ∀ a ∈ as, chkA GX 3000 416 ct_M_step pc a = true) ct_M_step.cut from trivial).at h⟩
theorem ke_M_tie : chkE GX 3000 417 ct_M_tie = true := by decide +kernel
theorem kk_M_tie : Chk GX 3000 417 ct_M_tie := ⟨ke_M_tie, fun pc as h => (show BT.AllP (fun pc as => ∀ a ∈ as, chkA GX 3000 417 ct_M_tie pc a = true) ct_M_tie.cut from trivial).at h⟩
theorem ke_M_keepsTies : chkE GX 3000 418 ct_M_keepsTies = true := by decide +kernel
theorem ka_M_keepsTies_4_0 : chkA GX 3000 418 ct_M_keepsTies 4 ca_M_keepsTies_4_0 = true := by decide +kernel
theorem ka_M_keepsTies_45_0 : chkA GX 3000 418 ct_M_keepsTies 45 ca_M_keepsTies_45_0 = true := by decide +kernel
theorem ka_M_keepsTies_60_0 : chkA GX 3000 418 ct_M_keepsTies 60 ca_M_keepsTies_60_0 = true := by decide +kernel
theorem kk_M_keepsTies : Chk GX 3000 418 ct_M_keepsTies := ⟨ke_M_keepsTies, fun pc as h => (show BT.AllP (fun pc as => ∀ a ∈ as, chkA GX 3000 418 ct_M_keepsTies pc a = true) ct_M_keepsTies.cut from ⟨⟨List.forall_mem_cons.mpr ⟨ka_M_keepsTies_4_0, fun a ha => by cases ha⟩, trivial⟩, ⟨List.forall_mem_cons.mpr ⟨ka_M_keepsTies_45_0, fun a ha => by cases ha⟩, trivial⟩, ⟨List.forall_mem_cons.mpr ⟨ka_M_keepsTies_60_0, fun a ha => by cases ha⟩, trivial⟩, trivial⟩).at h⟩
theorem ke_M_searches : chkE GX 3000 419 ct_M_searches = true := by decide +kernel
theorem ka_M_searches_29_0 : chkA GX 3000 419 ct_M_searches 29 ca_M_searches_29_0 = true := by decide +kernel
theorem ka_M_searches_73_0 : chkA GX 3000 419 ct_M_searches 73 ca_M_searches_73_0 = true := by decide +kernel
theorem ka_M_searches_73_1 : chkA GX 3000 419 ct_M_searches 73 ca_M_searches_73_1 = true := by decide +kernel
theorem ka_M_searches_161_0 : chkA GX 3000 419 ct_M_searches 161 ca_M_searches_161_0 = true := by decide +kernel
theorem ka_M_searches_161_1 : chkA GX 3000 419 ct_M_searches 161 ca_M_searches_161_1 = true := by decide +kernel
theorem ka_M_searches_161_2 : chkA GX 3000 419 ct_M_searches 161 ca_M_searches_161_2 = true := by decide +kernel
theorem ka_M_searches_161_3 : chkA GX 3000 419 ct_M_searches 161 ca_M_searches_161_3 = true := by decide +kernel
theorem kk_M_searches : Chk GX 3000 419 ct_M_searches := ⟨ke_M_searches, fun pc as h => (show BT.AllP (fun pc as => ∀ a ∈ as, chkA GX 3000 419 ct_M_searches pc a = true) ct_M_searches.cut from ⟨⟨List.forall_mem_cons.mpr ⟨ka_M_searches_29_0, fun a ha => by cases ha⟩, trivial⟩, ⟨List.forall_mem_cons.mpr ⟨ka_M_searches_73_0, List.forall_mem_cons.mpr ⟨ka_M_searches_73_1, fun a ha => by cases ha⟩⟩, trivial⟩, ⟨List.forall_mem_cons.mpr ⟨ka_M_searches_161_0, List.forall_mem_cons.mpr ⟨ka_M_searches_161_1, List.forall_mem_cons.mpr ⟨ka_M_searches_161_2, List.forall_mem_cons.mpr ⟨ka_M_searches_161_3, fun a ha => by cases ha⟩⟩⟩⟩, trivial⟩, trivial⟩).at h⟩
theorem ke_M_setDone : chkE GX 3000 420 ct_M_setDone = true := by decide +kernel
theorem ka_M_setDone_2_0 : chkA GX 3000 420 ct_M_setDone 2 ca_M_setDone_2_0 = true := by decide +kernel
theorem kk_M_setDone : Chk GX 3000 420 ct_M_setDone := ⟨ke_M_setDone, fun pc as h => (show BT.AllP (fun pc as => ∀ a ∈ as, chkA GX 3000 420 ct_M_setDone pc a = true) ct_M_setDone.cut from ⟨⟨List.forall_mem_cons.mpr ⟨ka_M_setDone_2_0, fun a ha => by cases ha⟩, trivial⟩, trivial⟩).at h⟩
