theorem ka_M_judge_31_0 : chkA GX 3000 388 ct_M_judge 31 ca_M_judge_31_0 = true := by decide +kernel
theorem ka_M_judge_31_1 : chkA GX 3000 388 ct_M_judge 31 ca_M_judge_31_1 = true := by decide +kernel
theorem kk_M_judge : Chk GX 3000 388 ct_M_judge := ⟨ke_M_judge, fun pc as h => (show BT.AllP (fun pc as => ∀ a ∈ as, chkA GX 3000 388 ct_M_judge pc a = true) ct_M_judge.cut from ⟨⟨List.forall_mem_cons.mpr ⟨ka_M_judge_31_0, List.forall_mem_cons.mpr ⟨ka_M_judge_31_1, fun a ha => by cases ha⟩⟩, trivial⟩, trivial⟩).at h⟩
theorem ke_M_forceAt : chkE GX 3000 390 ct_M_forceAt = true := by decide +kernel
theorem ka_M_forceAt_5_0 : chkA GX 3000 390 ct_M_forceAt 5 ca_M_forceAt_5_0 = true := by decide +kernel
theorem kk_M_forceAt : Chk GX 3000 390 ct_M_forceAt := ⟨ke_M_forceAt, fun pc as h => (show BT.AllP (fun pc as => ∀ a ∈ as, chkA GX 3000 390 ct_M_forceAt pc a = true) ct_M_forceAt.cut from ⟨⟨List.forall_mem_cons.mpr ⟨ka_M_forceAt_5_0, fun a ha => by cases ha⟩, trivial⟩, trivial⟩).at h⟩
theorem ke_M_inForce : chkE GX 3000 391 ct_M_inForce = true := by decide +kernel
theorem kk_M_inForce : Chk GX 3000 391 ct_M_inForce := ⟨ke_M_inForce, fun pc as h => (show BT.AllP (fun pc as => ∀ a ∈ as, chkA GX 3000 391 ct_M_inForce pc a = true) ct_M_inForce.cut from trivial).at h⟩
theorem ke_M_ask : chkE GX 3000 392 ct_M_ask = true := by decide +kernel
theorem kk_M_ask : Chk GX 3000 392 ct_M_ask := ⟨ke_M_ask, fun pc as h => (show BT.AllP (fun pc as => ∀ a ∈ as, chkA GX 3000 392 ct_M_ask pc a = true) ct_M_ask.cut from trivial).at h⟩
theorem ke_M_asked : chkE GX 3000 393 ct_M_asked = true := by decide +kernel
theorem kk_M_asked : Chk GX 3000 393 ct_M_asked := ⟨ke_M_asked, fun pc as h => (show BT.AllP (fun pc as => ∀ a ∈ as, chkA GX 3000 393 ct_M_asked pc a = true) ct_M_asked.cut from trivial).at h⟩
theorem ke_M_made : chkE GX 3000 394 ct_M_made = true := by decide +kernel
theorem kk_M_made : Chk GX 3000 394 ct_M_made := ⟨ke_M_made, fun pc as h => (show BT.AllP (fun pc as => ∀ a ∈ as, chkA GX 3000 394 ct_M_made pc a = true) ct_M_made.cut from trivial).at h⟩
theorem ke_M_may : chkE GX 3000 395 ct_M_may = true := by decide +kernel
theorem ka_M_may_54_0 : chkA GX 3000 395 ct_M_may 54 ca_M_may_54_0 = true := by decide +kernel
theorem kk_M_may : Chk GX 3000 395 ct_M_may := ⟨ke_M_may, fun pc as h => (show BT.AllP (fun pc as => ∀ a ∈ as, chkA GX 3000 395 ct_M_may pc a = true) ct_M_may.cut from ⟨⟨List.forall_mem_cons.mpr ⟨ka_M_may_54_0, fun a ha => by cases ha⟩, trivial⟩, trivial⟩).at h⟩
theorem ke_M_whoAt : chkE GX 3000 396 ct_M_whoAt = true := by decide +kernel
theorem ka_M_whoAt_6_0 : chkA GX 3000 396 ct_M_whoAt 6 ca_M_whoAt_6_0 = true := by decide +kernel
theorem kk_M_whoAt : Chk GX 3000 396 ct_M_whoAt := ⟨ke_M_whoAt, fun pc as h => (show BT.AllP (fun pc as => ∀ a ∈ as, chkA GX 3000 396 ct_M_whoAt pc a = true) ct_M_whoAt.cut from ⟨⟨List.forall_mem_cons.mpr ⟨ka_M_whoAt_6_0, fun a ha => by cases ha⟩, trivial⟩, trivial⟩).at h⟩
theorem ke_M_who : chkE GX 3000 397 ct_M_who = true := by decide +kernel
theorem kk_M_who : Chk GX 3000 397 ct_M_who := ⟨ke_M_who, fun pc as h => (show BT.AllP (fun pc as => ∀ a ∈ as, chkA GX 3000 397 ct_M_who pc a = true) ct_M_who.cut from trivial).at h⟩
theorem ke_M_could : chkE GX 3000 398 ct_M_could = true := by decide +kernel
theorem kk_M_could : Chk GX 3000 398 ct_M_could := ⟨ke_M_could, fun pc as h => (show BT.AllP (fun pc as => ∀ a ∈ as, chkA GX 3000 398 ct_M_could pc a = true) ct_M_could.cut from trivial).at h⟩
theorem ke_M_compare : chkE GX 3000 399 ct_M_compare = true := by decide +kernel
