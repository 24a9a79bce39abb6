theorem ka_M_judge_31_1 : chkA GX 3000 388 ct_M_judge 31 ca_M_judge_31_1 = true := by decide +kernel
theorem kk_M_judge : Chk GX 3000 388 ct_M_judge := ⟨ke_M_judge, fun pc as h => (show BT.AllP (fun pc as => ∀ a ∈ as, chkA GX 3000 388 ct_M_judge pc a = true) ct_M_judge.cut from ⟨⟨List.forall_mem_cons.mpr ⟨ka_M_judge_31_0, List.forall_mem_cons.mpr ⟨ka_M_judge_31_1, fun a ha => by cases ha⟩⟩, trivial⟩, trivial⟩).at h⟩
theorem ke_M_forceAt : chkE GX 3000 390 ct_M_forceAt = true := by decide +kernel
theorem ka_M_forceAt_5_0 : chkA GX 3000 390 ct_M_forceAt 5 ca_M_forceAt_5_0 = true := by decide +kernel
theorem kk_M_forceAt : Chk GX 3000 390 ct_M_forceAt := ⟨ke_M_forceAt, fun pc as h => (show BT.AllP (fun pc as => ∀ a ∈ as, chkA GX 3000 390 ct_M_forceAt pc a = true) ct_M_forceAt.cut from ⟨⟨List.forall_mem_cons.mpr ⟨ka_M_forceAt_5_0, fun a ha => by cases ha⟩, trivial⟩, trivial⟩).at h⟩
theorem ke_M_inForce : chkE GX 3000 391 ct_M_inForce = true := by decide +kernel
theorem kk_M_inForce : Chk GX 3000 391 ct_M_inForce := ⟨ke_M_inForce, fun pc as h => (show BT.AllP (fun pc as => ∀ a ∈ as, chkA GX 3000 391 ct_M_inForce pc a = true) ct_M_inForce.cut from trivial).at h⟩
theorem ke_M_ask : chkE GX 3000 392 ct_M_ask = true := by decide +kernel
theorem kk_M_ask : Chk GX 3000 392 ct_M_ask := ⟨ke_M_ask, fun pc as h => (show BT.AllP (fun pc as => ∀ a ∈ as, chkA GX 3000 392 ct_M_ask pc a = true) ct_M_ask.cut from trivial).at h⟩
theorem ke_M_asked : chkE GX 3000 393 ct_M_asked = true := by decide +kernel
theorem kk_M_asked : Chk GX 3000 393 ct_M_asked := ⟨ke_M_asked, fun pc as h => (show BT.AllP (fun pc as => ∀ a ∈ as, chkA GX 3000 393 ct_M_asked pc a = true) ct_M_asked.cut from trivial).at h⟩
theorem ke_M_made : chkE GX 3000 394 ct_M_made = true := by decide +kernel
theorem kk_M_made : Chk GX 3000 394 ct_M_made := ⟨ke_M_made, fun pc as h => (show BT.AllP (fun pc as => ∀ a ∈ as, chkA GX 3000 394 ct_M_made pc a = true) ct_M_made.cut from trivial).at h⟩
theorem ke_M_may : chkE GX 3000 395 ct_M_may = true := by decide +kernel
theorem ka_M_may_54_0 : chkA GX 3000 395 ct_M_may 54 ca_M_may_54_0 = true := by decide +kernel
theorem kk_M_may : Chk GX 3000 395 ct_M_may := ⟨ke_M_may, fun pc as h => (show BT.AllP (fun pc as => ∀ a ∈ as, chkA GX 3000 395 ct_M_may pc a = true) ct_M_may.cut from ⟨⟨List.forall_mem_cons.mpr ⟨ka_M_may_54_0, fun a ha => by cases ha⟩, trivial⟩, trivial⟩).at h⟩
theorem ke_M_whoAt : chkE GX 3000 396 ct_M_whoAt = true := by decide +kernel
theorem ka_M_whoAt_6_0 : chkA GX 3000 396 ct_M_whoAt 6 ca_M_whoAt_6_0 = true := by decide +kernel
theorem kk_M_whoAt : Chk GX 3000 396 ct_M_whoAt := ⟨ke_M_whoAt, fun pc as h => (show BT.AllP (fun pc as => ∀ a ∈ as, chkA GX 3000 396 ct_M_whoAt pc a = true) ct_M_whoAt.cut from ⟨⟨List.forall_mem_cons.mpr ⟨ka_M_whoAt_6_0, fun a ha => by cases ha⟩, trivial⟩, trivial⟩).at h⟩
theorem ke_M_who : chkE GX 3000 397 ct_M_who = true := by decide +kernel
theorem kk_M_who : Chk GX 3000 397 ct_M_who := ⟨ke_M_who, fun pc as h => (show BT.AllP (fun pc as => ∀ a ∈ as, chkA GX 3000 397 ct_M_who pc a = true) ct_M_who.cut from trivial).at h⟩
theorem ke_M_could : chkE GX 3000 398 ct_M_could = true := by decide +kernel
theorem kk_M_could : Chk GX 3000 398 ct_M_could := ⟨ke_M_could, fun pc as h => (show BT.AllP (fun pc as => ∀ a ∈ as, chkA GX 3000 398 ct_M_could pc a = true) ct_M_could.cut from trivial).at h⟩
theorem ke_M_compare : chkE GX 3000 399 ct_M_compare = true := by decide +kernel
theorem ka_M_compare_50_0 : chkA GX 3000 399 ct_M_compare 50 ca_M_compare_50_0 = true := by decide +kernel
theorem ka_M_compare_91_0 : chkA GX 3000 399 ct_M_compare 91 ca_M_compare_91_0 = true := by decide +kernel
theorem ka_M_compare_117_0 : chkA GX 3000 399 ct_M_compare 117 ca_M_compare_117_0 = true := by decide +kernel
theorem ka_M_compare_127_0 : chkA GX 3000 399 ct_M_compare 127 ca_M_compare_127_0 = true := by decide +kernel
theorem kk_M_compare : Chk GX 3000 399 ct_M_compare := ⟨ke_M_compare, fun pc as h => (show BT.AllP (fun pc as => ∀ a ∈ as, chkA GX 3000 399 ct_M_compare pc a = true) ct_M_compare.cut from ⟨⟨List.forall_mem_cons.mpr ⟨ka_M_compare_50_0, fun a ha => by cases ha⟩, List.forall_mem_cons.mpr ⟨ka_M_compare_91_0, fun a ha => by cases ha⟩, trivial⟩, ⟨List.forall_mem_cons.mpr ⟨ka_M_compare_117_0, fun a ha => by cases ha⟩, List.forall_mem_cons.mpr ⟨ka_M_compare_127_0, fun a ha => by cases ha⟩, trivial⟩, trivial⟩).at h⟩
theorem ke_M_compared : chkE GX 3000 400 ct_M_compared = true := by decide +kernel
theorem kk_M_compared : Chk GX 3000 400 ct_M_compared := ⟨ke_M_compared, fun pc as h => (show BT.AllP (fun pc as => ∀ a ∈ as, chkA GX 3000 400 ct_M_compared pc a = true) ct_M_compared.cut from trivial).at h⟩
theorem ke_M_decides : chkE GX 3000 401 ct_M_decides = true := by decide +kernel
theorem ka_M_decides_55_0 : chkA GX 3000 401 ct_M_decides 55 ca_M_decides_55_0 = true := by decide +kernel
theorem ka_M_decides_81_0 : chkA GX 3000 401 ct_M_decides 81 ca_M_decides_81_0 = true := by decide +kernel
theorem ka_M_decides_91_0 : chkA GX 3000 401 ct_M_decides 91 ca_M_decides_91_0 = true := by decide +kernel
theorem kk_M_decides : Chk GX 3000 401 ct_M_decides := ⟨ke_M_decides, fun pc as h => (show BT.AllP (fun pc as => ∀ a ∈ as, chkA GX 3000 401 ct_M_decides pc a = true) ct_M_decides.cut from ⟨⟨List.forall_mem_cons.mpr ⟨ka_M_decides_55_0, fun a ha => by cases ha⟩, trivial⟩, ⟨List.forall_mem_cons.mpr ⟨ka_M_decides_81_0, fun a ha => by cases ha⟩, trivial⟩, ⟨List.forall_mem_cons.mpr ⟨ka_M_decides_91_0, fun a ha => by cases ha⟩, trivial⟩, trivial⟩).at h⟩
theorem ke_M_law : chkE GX 3000 402 ct_M_law = true := by decide +kernel
theorem kk_M_law : Chk GX 3000 402 ct_M_law := ⟨ke_M_law, fun pc as h => (show BT.AllP (fun pc as => ∀ a ∈ as, chkA GX 3000 402 ct_M_law pc a = true) ct_M_law.cut from trivial).at h⟩
theorem ke_M_keepsLaw : chkE GX 3000 403 ct_M_keepsLaw = true := by decide +kernel
theorem ka_M_keepsLaw_30_0 : chkA GX 3000 403 ct_M_keepsLaw 30 ca_M_keepsLaw_30_0 = true := by decide +kernel
theorem ka_M_keepsLaw_96_0 : chkA GX 3000 403 ct_M_keepsLaw 96 ca_M_keepsLaw_96_0 = true := by decide +kernel
theorem kk_M_keepsLaw : Chk GX 3000 403 ct_M_keepsLaw := ⟨ke_M_keepsLaw, fun pc as h => (show BT.AllP (fun pc as => ∀ a ∈ as, chkA GX 3000 403 ct_M_keepsLaw pc a = true) ct_M_keepsLaw.cut from ⟨⟨List.forall_mem_cons.mpr ⟨ka_M_keepsLaw_30_0, fun a ha => by cases ha⟩, trivial⟩, ⟨List.forall_mem_cons.mpr ⟨ka_M_keepsLaw_96_0, fun a ha => by cases ha⟩, trivial⟩, trivial⟩).at h⟩
theorem ke_M_giverLaw : chkE GX 3000 404 ct_M_giverLaw = true := by decide +kernel
theorem ka_M_giverLaw_6_0 : chkA GX 3000 404 ct_M_giverLaw 6 ca_M_giverLaw_6_0 = true := by decide +kernel
theorem kk_M_giverLaw : Chk GX 3000 404 ct_M_giverLaw := ⟨ke_M_giverLaw, fun pc as h => (show BT.AllP (fun pc as => ∀ a ∈ as, chkA GX 3000 404 ct_M_giverLaw pc a = true) ct_M_giverLaw.cut from ⟨⟨List.forall_mem_cons.mpr ⟨ka_M_giverLaw_6_0, fun a ha => by cases ha⟩, trivial⟩, trivial⟩).at h⟩
theorem ke_M_give : chkE GX 3000 405 ct_M_give = true := by decide +kernel
theorem ka_M_give_82_0 : chkA GX 3000 405 ct_M_give 82 ca_M_give_82_0 = true := by decide +kernel
theorem kk_M_give : Chk GX 3000 405 ct_M_give := ⟨ke_M_give, fun pc as h => (show BT.AllP (fun pc as => ∀ a ∈ as, chkA GX 3000 405 ct_M_give pc a = true) ct_M_give.cut from ⟨⟨List.forall_mem_cons.mpr ⟨ka_M_give_82_0, fun a ha => by cases ha⟩, trivial⟩, trivial⟩).at h⟩
theorem ke_M_take : chkE GX 3000 406 ct_M_take = true := by decide +kernel
theorem ka_M_take_46_0 : chkA GX 3000 406 ct_M_take 46 ca_M_take_46_0 = true := by decide +kernel
theorem kk_M_take : Chk GX 3000 406 ct_M_take := ⟨ke_M_take, fun pc as h => (show BT.AllP (fun pc as => ∀ a ∈ as, chkA GX 3000 406 ct_M_take pc a = true) ct_M_take.cut from ⟨⟨List.forall_mem_cons.mpr ⟨ka_M_take_46_0, fun a ha => by cases ha⟩, trivial⟩, trivial⟩).at h⟩
theorem ke_M_broken : chkE GX 3000 407 ct_M_broken = true := by decide +kernel
theorem kk_M_broken : Chk GX 3000 407 ct_M_broken := ⟨ke_M_broken, fun pc as h => (show BT.AllP (fun pc as => ∀ a ∈ as, chkA GX 3000 407 ct_M_broken pc a = true) ct_M_broken.cut from trivial).at h⟩
theorem ke_M_breach : chkE GX 3000 408 ct_M_breach = true := by decide +kernel
theorem ka_M_breach_18_0 : chkA GX 3000 408 ct_M_breach 18 ca_M_breach_18_0 = true := by decide +kernel
theorem kk_M_breach : Chk GX 3000 408 ct_M_breach := ⟨ke_M_breach, fun pc as h => (show BT.AllP (fun pc as => ∀ a ∈ as, chkA GX 3000 408 ct_M_breach pc a = true) ct_M_breach.cut from ⟨⟨List.forall_mem_cons.mpr ⟨ka_M_breach_18_0, fun a ha => by cases ha⟩, trivial⟩, trivial⟩).at h⟩
theorem ke_M_session : chkE GX 3000 409 ct_M_session = true := by decide +kernel
theorem kk_M_session : Chk GX 3000 409 ct_M_session := ⟨ke_M_session, fun pc as h => (show BT.AllP (fun pc as => ∀ a ∈ as, chkA GX 3000 409 ct_M_session pc a = true) ct_M_session.cut from trivial).at h⟩
theorem ke_M_switchOn : chkE GX 3000 410 ct_M_switchOn = true := by decide +kernel
