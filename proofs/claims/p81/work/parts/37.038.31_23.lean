theorem ka_M_judge_31_1L9 : chkA GXL9 3000 388 ct_M_judgeL9 31 ca_M_judge_31_1 = true := by decide +kernel
theorem kk_M_judgeL9 : Chk GXL9 3000 388 ct_M_judgeL9 := ⟨ke_M_judgeL9, fun pc as h => (show BT.AllP (fun pc as => ∀ a ∈ as, chkA GXL9 3000 388 ct_M_judgeL9 pc a = true) ct_M_judgeL9.cut from ⟨⟨List.forall_mem_cons.mpr ⟨ka_M_judge_31_0L9, List.forall_mem_cons.mpr ⟨ka_M_judge_31_1L9, fun a ha => by cases ha⟩⟩, trivial⟩, trivial⟩).at h⟩
theorem ke_M_forceAtL9 : chkE GXL9 3000 390 ct_M_forceAtL9 = true := by decide +kernel
theorem ka_M_forceAt_5_0L9 : chkA GXL9 3000 390 ct_M_forceAtL9 5 ca_M_forceAt_5_0L9 = true := by decide +kernel
theorem kk_M_forceAtL9 : Chk GXL9 3000 390 ct_M_forceAtL9 := ⟨ke_M_forceAtL9, fun pc as h => (show BT.AllP (fun pc as => ∀ a ∈ as, chkA GXL9 3000 390 ct_M_forceAtL9 pc a = true) ct_M_forceAtL9.cut from ⟨⟨List.forall_mem_cons.mpr ⟨ka_M_forceAt_5_0L9, fun a ha => by cases ha⟩, trivial⟩, trivial⟩).at h⟩
theorem ke_M_inForce : chkE GXL9 3000 391 ct_M_inForce = true := by decide +kernel
theorem kk_M_inForce : Chk GXL9 3000 391 ct_M_inForce := ⟨ke_M_inForce, fun pc as h => (show BT.AllP (fun pc as => ∀ a ∈ as, chkA GXL9 3000 391 ct_M_inForce pc a = true) ct_M_inForce.cut from trivial).at h⟩
theorem ke_M_askL9 : chkE GXL9 3000 392 ct_M_askL9 = true := by decide +kernel
theorem kk_M_askL9 : Chk GXL9 3000 392 ct_M_askL9 := ⟨ke_M_askL9, fun pc as h => (show BT.AllP (fun pc as => ∀ a ∈ as, chkA GXL9 3000 392 ct_M_askL9 pc a = true) ct_M_askL9.cut from trivial).at h⟩
theorem ke_M_askedL9 : chkE GXL9 3000 393 ct_M_askedL9 = true := by decide +kernel
theorem kk_M_askedL9 : Chk GXL9 3000 393 ct_M_askedL9 := ⟨ke_M_askedL9, fun pc as h => (show BT.AllP (fun pc as => ∀ a ∈ as, chkA GXL9 3000 393 ct_M_askedL9 pc a = true) ct_M_askedL9.cut from trivial).at h⟩
theorem ke_M_madeL9 : chkE GXL9 3000 394 ct_M_made = true := by decide +kernel
theorem kk_M_madeL9 : Chk GXL9 3000 394 ct_M_made := ⟨ke_M_madeL9, fun pc as h => (show BT.AllP (fun pc as => ∀ a ∈ as, chkA GXL9 3000 394 ct_M_made pc a = true) ct_M_made.cut from trivial).at h⟩
theorem ke_M_mayL9 : chkE GXL9 3000 395 ct_M_mayL9 = true := by decide +kernel
theorem ka_M_may_54_0L9 : chkA GXL9 3000 395 ct_M_mayL9 54 ca_M_may_54_0 = true := by decide +kernel
theorem kk_M_mayL9 : Chk GXL9 3000 395 ct_M_mayL9 := ⟨ke_M_mayL9, fun pc as h => (show BT.AllP (fun pc as => ∀ a ∈ as, chkA GXL9 3000 395 ct_M_mayL9 pc a = true) ct_M_mayL9.cut from ⟨⟨List.forall_mem_cons.mpr ⟨ka_M_may_54_0L9, fun a ha => by cases ha⟩, trivial⟩, trivial⟩).at h⟩
theorem ke_M_whoAtL9 : chkE GXL9 3000 396 ct_M_whoAtL9 = true := by decide +kernel
theorem ka_M_whoAt_6_0L9 : chkA GXL9 3000 396 ct_M_whoAtL9 6 ca_M_whoAt_6_0 = true := by decide +kernel
theorem kk_M_whoAtL9 : Chk GXL9 3000 396 ct_M_whoAtL9 := ⟨ke_M_whoAtL9, fun pc as h => (show BT.AllP (fun pc as => ∀ a ∈ as, chkA GXL9 3000 396 ct_M_whoAtL9 pc a = true) ct_M_whoAtL9.cut from ⟨⟨List.forall_mem_cons.mpr ⟨ka_M_whoAt_6_0L9, fun a ha => by cases ha⟩, trivial⟩, trivial⟩).at h⟩
theorem ke_M_whoL9 : chkE GXL9 3000 397 ct_M_whoL9 = true := by decide +kernel
theorem kk_M_whoL9 : Chk GXL9 3000 397 ct_M_whoL9 := ⟨ke_M_whoL9, fun pc as h => (show BT.AllP (fun pc as => ∀ a ∈ as, chkA GXL9 3000 397 ct_M_whoL9 pc a = true) ct_M_whoL9.cut from trivial).at h⟩
theorem ke_M_couldL9 : chkE GXL9 3000 398 ct_M_couldL9 = true := by decide +kernel
theorem kk_M_couldL9 : Chk GXL9 3000 398 ct_M_couldL9 := ⟨ke_M_couldL9, fun pc as h => (show BT.AllP (fun pc as => ∀ a ∈ as, chkA GXL9 3000 398 ct_M_couldL9 pc a = true) ct_M_couldL9.cut from trivial).at h⟩
theorem ke_M_compareL9 : chkE GXL9 3000 399 ct_M_compareL9 = true := by decide +kernel
theorem ka_M_compare_50_0L9 : chkA GXL9 3000 399 ct_M_compareL9 50 ca_M_compare_50_0L9 = true := by decide +kernel
theorem ka_M_compare_91_0L9 : chkA GXL9 3000 399 ct_M_compareL9 91 ca_M_compare_91_0 = true := by decide +kernel
theorem ka_M_compare_117_0L9 : chkA GXL9 3000 399 ct_M_compareL9 117 ca_M_compare_117_0 = true := by decide +kernel
theorem ka_M_compare_127_0L9 : chkA GXL9 3000 399 ct_M_compareL9 127 ca_M_compare_127_0 = true := by decide +kernel
theorem kk_M_compareL9 : Chk GXL9 3000 399 ct_M_compareL9 := ⟨ke_M_compareL9, fun pc as h => (show BT.AllP (fun pc as => ∀ a ∈ as, chkA GXL9 3000 399 ct_M_compareL9 pc a = true) ct_M_compareL9.cut from ⟨⟨List.forall_mem_cons.mpr ⟨ka_M_compare_50_0L9, fun a ha => by cases ha⟩, List.forall_mem_cons.mpr ⟨ka_M_compare_91_0L9, fun a ha => by cases ha⟩, trivial⟩, ⟨List.forall_mem_cons.mpr ⟨ka_M_compare_117_0L9, fun a ha => by cases ha⟩, List.forall_mem_cons.mpr ⟨ka_M_compare_127_0L9, fun a ha => by cases ha⟩, trivial⟩, trivial⟩).at h⟩
theorem ke_M_comparedL9 : chkE GXL9 3000 400 ct_M_compared = true := by decide +kernel
theorem kk_M_comparedL9 : Chk GXL9 3000 400 ct_M_compared := ⟨ke_M_comparedL9, fun pc as h => (show BT.AllP (fun pc as => ∀ a ∈ as, chkA GXL9 3000 400 ct_M_compared pc a = true) ct_M_compared.cut from trivial).at h⟩
theorem ke_M_decidesL9 : chkE GXL9 3000 401 ct_M_decidesL9 = true := by decide +kernel
theorem ka_M_decides_55_0L9 : chkA GXL9 3000 401 ct_M_decidesL9 55 ca_M_decides_55_0 = true := by decide +kernel
theorem ka_M_decides_81_0L9 : chkA GXL9 3000 401 ct_M_decidesL9 81 ca_M_decides_81_0 = true := by decide +kernel
theorem ka_M_decides_91_0L9 : chkA GXL9 3000 401 ct_M_decidesL9 91 ca_M_decides_91_0 = true := by decide +kernel
theorem kk_M_decidesL9 : Chk GXL9 3000 401 ct_M_decidesL9 := ⟨ke_M_decidesL9, fun pc as h => (show BT.AllP (fun pc as => ∀ a ∈ as, chkA GXL9 3000 401 ct_M_decidesL9 pc a = true) ct_M_decidesL9.cut from ⟨⟨List.forall_mem_cons.mpr ⟨ka_M_decides_55_0L9, fun a ha => by cases ha⟩, trivial⟩, ⟨List.forall_mem_cons.mpr ⟨ka_M_decides_81_0L9, fun a ha => by cases ha⟩, trivial⟩, ⟨List.forall_mem_cons.mpr ⟨ka_M_decides_91_0L9, fun a ha => by cases ha⟩, trivial⟩, trivial⟩).at h⟩
theorem ke_M_law : chkE GXL9 3000 402 ct_M_law = true := by decide +kernel
theorem kk_M_law : Chk GXL9 3000 402 ct_M_law := ⟨ke_M_law, fun pc as h => (show BT.AllP (fun pc as => ∀ a ∈ as, chkA GXL9 3000 402 ct_M_law pc a = true) ct_M_law.cut from trivial).at h⟩
theorem ke_M_keepsLawL9 : chkE GXL9 3000 403 ct_M_keepsLawL9 = true := by decide +kernel
theorem ka_M_keepsLaw_30_0L9 : chkA GXL9 3000 403 ct_M_keepsLawL9 30 ca_M_keepsLaw_30_0L9 = true := by decide +kernel
theorem ka_M_keepsLaw_96_0L9 : chkA GXL9 3000 403 ct_M_keepsLawL9 96 ca_M_keepsLaw_96_0 = true := by decide +kernel
theorem kk_M_keepsLawL9 : Chk GXL9 3000 403 ct_M_keepsLawL9 := ⟨ke_M_keepsLawL9, fun pc as h => (show BT.AllP (fun pc as => ∀ a ∈ as, chkA GXL9 3000 403 ct_M_keepsLawL9 pc a = true) ct_M_keepsLawL9.cut from ⟨⟨List.forall_mem_cons.mpr ⟨ka_M_keepsLaw_30_0L9, fun a ha => by cases ha⟩, trivial⟩, ⟨List.forall_mem_cons.mpr ⟨ka_M_keepsLaw_96_0L9, fun a ha => by cases ha⟩, trivial⟩, trivial⟩).at h⟩
theorem ke_M_giverLaw : chkE GXL9 3000 404 ct_M_giverLaw = true := by decide +kernel
theorem ka_M_giverLaw_6_0 : chkA GXL9 3000 404 ct_M_giverLaw 6 ca_M_giverLaw_6_0 = true := by decide +kernel
theorem kk_M_giverLaw : Chk GXL9 3000 404 ct_M_giverLaw := ⟨ke_M_giverLaw, fun pc as h => (show BT.AllP (fun pc as => ∀ a ∈ as, chkA GXL9 3000 404 ct_M_giverLaw pc a = true) ct_M_giverLaw.cut from ⟨⟨List.forall_mem_cons.mpr ⟨ka_M_giverLaw_6_0, fun a ha => by cases ha⟩, trivial⟩, trivial⟩).at h⟩
theorem ke_M_give : chkE GXL9 3000 405 ct_M_give = true := by decide +kernel
theorem ka_M_give_82_0 : chkA GXL9 3000 405 ct_M_give 82 ca_M_give_82_0 = true := by decide +kernel
theorem kk_M_give : Chk GXL9 3000 405 ct_M_give := ⟨ke_M_give, fun pc as h => (show BT.AllP (fun pc as => ∀ a ∈ as, chkA GXL9 3000 405 ct_M_give pc a = true) ct_M_give.cut from ⟨⟨List.forall_mem_cons.mpr ⟨ka_M_give_82_0, fun a ha => by cases ha⟩, trivial⟩, trivial⟩).at h⟩
theorem ke_M_take : chkE GXL9 3000 406 ct_M_take = true := by decide +kernel
theorem ka_M_take_46_0 : chkA GXL9 3000 406 ct_M_take 46 ca_M_take_46_0 = true := by decide +kernel
theorem kk_M_take : Chk GXL9 3000 406 ct_M_take := ⟨ke_M_take, fun pc as h => (show BT.AllP (fun pc as => ∀ a ∈ as, chkA GXL9 3000 406 ct_M_take pc a = true) ct_M_take.cut from ⟨⟨List.forall_mem_cons.mpr ⟨ka_M_take_46_0, fun a ha => by cases ha⟩, trivial⟩, trivial⟩).at h⟩
theorem ke_M_brokenL9 : chkE GXL9 3000 407 ct_M_brokenL9 = true := by decide +kernel
theorem kk_M_brokenL9 : Chk GXL9 3000 407 ct_M_brokenL9 := ⟨ke_M_brokenL9, fun pc as h => (show BT.AllP (fun pc as => ∀ a ∈ as, chkA GXL9 3000 407 ct_M_brokenL9 pc a = true) ct_M_brokenL9.cut from trivial).at h⟩
theorem ke_M_breachL9 : chkE GXL9 3000 408 ct_M_breachL9 = true := by decide +kernel
theorem ka_M_breach_18_0L9 : chkA GXL9 3000 408 ct_M_breachL9 18 ca_M_breach_18_0L9 = true := by decide +kernel
theorem kk_M_breachL9 : Chk GXL9 3000 408 ct_M_breachL9 := ⟨ke_M_breachL9, fun pc as h => (show BT.AllP (fun pc as => ∀ a ∈ as, chkA GXL9 3000 408 ct_M_breachL9 pc a = true) ct_M_breachL9.cut from ⟨⟨List.forall_mem_cons.mpr ⟨ka_M_breach_18_0L9, fun a ha => by cases ha⟩, trivial⟩, trivial⟩).at h⟩
theorem ke_M_sessionL9 : chkE GXL9 3000 409 ct_M_session = true := by decide +kernel
theorem kk_M_sessionL9 : Chk GXL9 3000 409 ct_M_session := ⟨ke_M_sessionL9, fun pc as h => (show BT.AllP (fun pc as => ∀ a ∈ as, chkA GXL9 3000 409 ct_M_session pc a = true) ct_M_session.cut from trivial).at h⟩
theorem ke_M_switchOnL9 : chkE GXL9 3000 410 ct_M_switchOnL9 = true := by decide +kernel
