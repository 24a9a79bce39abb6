theorem ke_M_could : chkE GX 3000 398 ct_M_could = true := by decide +kernel
theorem kk_M_could : Chk GX 3000 398 ct_M_could := ⟨ke_M_could, fun pc as h => (show BT.AllP (fun pc as => ∀ a ∈ as, chkA GX 3000 398 ct_M_could pc a = true) ct_M_could.cut from trivial).at h⟩
theorem ke_M_compare : chkE GX 3000 399 ct_M_compare = true := by decide +kernel
theorem ka_M_compare_50_0 : chkA GX 3000 399 ct_M_compare 50 ca_M_compare_50_0 = true := by decide +kernel
theorem ka_M_compare_91_0 : chkA GX 3000 399 ct_M_compare 91 ca_M_compare_91_0 = true := by decide +kernel
theorem ka_M_compare_117_0 : chkA GX 3000 399 ct_M_compare 117 ca_M_compare_117_0 = true := by decide +kernel
theorem ka_M_compare_127_0 : chkA GX 3000 399 ct_M_compare 127 ca_M_compare_127_0 = true := by decide +kernel
theorem kk_M_compare : Chk GX 3000 399 ct_M_compare := ⟨ke_M_compare, fun pc as h => (show BT.AllP (fun pc as => ∀ a ∈ as, chkA GX 3000 399 ct_M_compare pc a = true) ct_M_compare.cut from ⟨⟨List.forall_mem_cons.mpr ⟨ka_M_compare_50_0, fun a ha => by cases ha⟩, List.forall_mem_cons.mpr ⟨ka_M_compare_91_0, fun a ha => by cases ha⟩, trivial⟩, ⟨List.forall_mem_cons.mpr ⟨ka_M_compare_117_0, fun a ha => by cases ha⟩, List.forall_mem_cons.mpr ⟨ka_M_compare_127_0, fun a ha => by cases ha⟩, trivial⟩, trivial⟩).at h⟩
theorem ke_M_compared : chkE GX 3000 400 ct_M_compared = true := by decide +kernel
theorem kk_M_compared : Chk GX 3000 400 ct_M_compared := ⟨ke_M_compared, fun pc as h => (show BT.AllP (fun pc as => ∀ a ∈ as, chkA GX 3000 400 ct_M_compared pc a = true) ct_M_compared.cut from trivial).at h⟩
theorem ke_M_decides : chkE GX 3000 401 ct_M_decides = true := by decide +kernel
theorem ka_M_decides_55_0 : chkA GX 3000 401 ct_M_decides 55 ca_M_decides_55_0 = true := by decide +kernel
theorem ka_M_decides_81_0 : chkA GX 3000 401 ct_M_decides 81 ca_M_decides_81_0 = true := by decide +kernel
theorem ka_M_decides_91_0 : chkA GX 3000 401 ct_M_decides 91 ca_M_decides_91_0 = true := by decide +kernel
theorem kk_M_decides : Chk GX 3000 401 ct_M_decides := ⟨ke_M_decides, fun pc as h => (show BT.AllP (fun pc as => ∀ a ∈ as, chkA GX 3000 401 ct_M_decides pc a = true) ct_M_decides.cut from ⟨⟨List.forall_mem_cons.mpr ⟨ka_M_decides_55_0, fun a ha => by cases ha⟩, trivial⟩, ⟨List.forall_mem_cons.mpr ⟨ka_M_decides_81_0, fun a ha => by cases ha⟩, trivial⟩, ⟨List.forall_mem_cons.mpr ⟨ka_M_decides_91_0, fun a ha => by cases ha⟩, trivial⟩, trivial⟩).at h⟩
theorem ke_M_law : chkE GX 3000 402 ct_M_law = true := by decide +kernel
theorem kk_M_law : Chk GX 3000 402 ct_M_law := ⟨ke_M_law, fun pc as h => (show BT.AllP (fun pc as => ∀ a ∈ as, chkA GX 3000 402 ct_M_law pc a = true) ct_M_law.cut from trivial).at h⟩
theorem ke_M_keepsLaw : chkE GX 3000 403 ct_M_keepsLaw = true := by decide +kernel
theorem ka_M_keepsLaw_30_0 : chkA GX 3000 403 ct_M_keepsLaw 30 ca_M_keepsLaw_30_0 = true := by decide +kernel
theorem ka_M_keepsLaw_96_0 : chkA GX 3000 403 ct_M_keepsLaw 96 ca_M_keepsLaw_96_0 = true := by decide +kernel
theorem kk_M_keepsLaw : Chk GX 3000 403 ct_M_keepsLaw := ⟨ke_M_keepsLaw, fun pc as h => (show BT.AllP (fun pc as => ∀ a ∈ as, chkA GX 3000 403 ct_M_keepsLaw pc a = true) ct_M_keepsLaw.cut from ⟨⟨List.forall_mem_cons.mpr ⟨ka_M_keepsLaw_30_0, fun a ha => by cases ha⟩, trivial⟩, ⟨List.forall_mem_cons.mpr ⟨ka_M_keepsLaw_96_0, fun a ha => by cases ha⟩, trivial⟩, trivial⟩).at h⟩
theorem ke_M_giverLaw : chkE GX 3000 404 ct_M_giverLaw = true := by decide +kernel
theorem ka_M_giverLaw_6_0 : chkA GX 3000 404 ct_M_giverLaw 6 ca_M_giverLaw_6_0 = true := by decide +kernel
theorem kk_M_giverLaw : Chk GX 3000 404 ct_M_giverLaw := ⟨ke_M_giverLaw, fun pc as h => (show BT.AllP (fun pc as => ∀ a ∈ as, chkA GX 3000 404 ct_M_giverLaw pc a = true) ct_M_giverLaw.cut from ⟨⟨List.forall_mem_cons.mpr ⟨ka_M_giverLaw_6_0, fun a ha => by cases ha⟩, trivial⟩, trivial⟩).at h⟩
theorem ke_M_give : chkE GX 3000 405 ct_M_give = true := by decide +kernel
theorem ka_M_give_82_0 : chkA GX 3000 405 ct_M_give 82 ca_M_give_82_0 = true := by decide +kernel
theorem kk_M_give : Chk GX 3000 405 ct_M_give := ⟨ke_M_give, fun pc as h => (show BT.AllP (fun pc as => ∀ a ∈ as, chkA GX 3000 405 ct_M_give pc a = true) ct_M_give.cut from ⟨⟨List.forall_mem_cons.mpr ⟨ka_M_give_82_0, fun a ha => by cases ha⟩, trivial⟩, trivial⟩).at h⟩
theorem ke_M_take : chkE GX 3000 406 ct_M_take = true := by decide +kernel
theorem ka_M_take_46_0 : chkA GX 3000 406 ct_M_take 46 ca_M_take_46_0 = true := by decide +kernel
theorem kk_M_take : Chk GX 3000 406 ct_M_take := ⟨ke_M_take, fun pc as h => (show BT.AllP (fun pc as => ∀ a ∈ as, chkA GX 3000 406 ct_M_take pc a = true) ct_M_take.cut from ⟨⟨List.forall_mem_cons.mpr ⟨ka_M_take_46_0, fun a ha => by cases ha⟩, trivial⟩, trivial⟩).at h⟩
theorem ke_M_broken : chkE GX 3000 407 ct_M_broken = true := by decide +kernel
theorem kk_M_broken : Chk GX 3000 407 ct_M_broken := ⟨ke_M_broken, fun pc as h => (show BT.AllP (fun pc as => ∀ a ∈ as, chkA GX 3000 407 ct_M_broken pc a = true) ct_M_broken.cut from trivial).at h⟩
theorem ke_M_breach : chkE GX 3000 408 ct_M_breach = true := by decide +kernel
theorem ka_M_breach_18_0 : chkA GX 3000 408 ct_M_breach 18 ca_M_breach_18_0 = true := by decide +kernel
theorem kk_M_breach : Chk GX 3000 408 ct_M_breach := ⟨ke_M_breach, fun pc as h => (show BT.AllP (fun pc as => ∀ a ∈ as, chkA GX 3000 408 ct_M_breach pc a = true) ct_M_breach.cut from ⟨⟨List.forall_mem_cons.mpr ⟨ka_M_breach_18_0, fun a ha => by cases ha⟩, trivial⟩, trivial⟩).at h⟩
theorem ke_M_session : chkE GX 3000 409 ct_M_session = true := by decide +kernel
theorem kk_M_session : Chk GX 3000 409 ct_M_session := ⟨ke_M_session, fun pc as h => (show BT.AllP (fun pc as => ∀ a ∈ as, chkA GX 3000 409 ct_M_session pc a = true) ct_M_session.cut from trivial).at h⟩
theorem ke_M_switchOn : chkE GX 3000 410 ct_M_switchOn = true := by decide +kernel
theorem ka_M_switchOn_67_0 : chkA GX 3000 410 ct_M_switchOn 67 ca_M_switchOn_67_0 = true := by decide +kernel
theorem kk_M_switchOn : Chk GX 3000 410 ct_M_switchOn := ⟨ke_M_switchOn, fun pc as h => (show BT.AllP (fun pc as => ∀ a ∈ as, chkA GX 3000 410 ct_M_switchOn pc a = true) ct_M_switchOn.cut from ⟨⟨List.forall_mem_cons.mpr ⟨ka_M_switchOn_67_0, fun a ha => by cases ha⟩, trivial⟩, trivial⟩).at h⟩
theorem ke_M_switchOff : chkE GX 3000 411 ct_M_switchOff = true := by decide +kernel
theorem kk_M_switchOff : Chk GX 3000 411 ct_M_switchOff := ⟨ke_M_switchOff, fun pc as h => (show BT.AllP (fun pc as => ∀ a ∈ as, chkA GX 3000 411 ct_M_switchOff pc a = true) ct_M_switchOff.cut from trivial).at h⟩
theorem ke_M_askIn : chkE GX 3000 412 ct_M_askIn = true := by decide +kernel
theorem ka_M_askIn_63_0 : chkA GX 3000 412 ct_M_askIn 63 ca_M_askIn_63_0 = true := by decide +kernel
theorem kk_M_askIn : Chk GX 3000 412 ct_M_askIn := ⟨ke_M_askIn, fun pc as h => (show BT.AllP (fun pc as => ∀ a ∈ as, chkA GX 3000 412 ct_M_askIn pc a = true) ct_M_askIn.cut from ⟨⟨List.forall_mem_cons.mpr ⟨ka_M_askIn_63_0, fun a ha => by cases ha⟩, trivial⟩, trivial⟩).at h⟩
theorem ke_M_work : chkE GX 3000 413 ct_M_work = true := by decide +kernel
theorem kk_M_work : Chk GX 3000 413 ct_M_work := ⟨ke_M_work, fun pc as h => (show BT.AllP (fun pc as => ∀ a ∈ as, chkA GX 3000 413 ct_M_work pc a = true) ct_M_work.cut from trivial).at h⟩
theorem ke_M_step : chkE GX 3000 416 ct_M_step = true := by decide +kernel
theorem kk_M_step : Chk GX 3000 416 ct_M_step := ⟨ke_M_step, fun pc as h => (show BT.AllP (fun pc as => ∀ a ∈ as, chkA GX 3000 416 ct_M_step pc a = true) ct_M_step.cut from trivial).at h⟩
