theorem ka_M_flow_67_0L9 : chkA GXL9 3000 453 ct_M_flowL9 67 ca_M_flow_67_0L9 = true := by decide +kernel
theorem kk_M_flowL9 : Chk GXL9 3000 453 ct_M_flowL9 := ⟨ke_M_flowL9, fun pc as h => (show BT.AllP (fun pc as => ∀ a ∈ as, chkA GXL9 3000 453 ct_M_flowL9 pc a = true) ct_M_flowL9.cut from ⟨⟨List.forall_mem_cons.mpr ⟨ka_M_flow_16_0L9, fun a ha => by cases ha⟩, trivial⟩, ⟨List.forall_mem_cons.mpr ⟨ka_M_flow_42_0L9, fun a ha => by cases ha⟩, trivial⟩, ⟨List.forall_mem_cons.mpr ⟨ka_M_flow_67_0L9, fun a ha => by cases ha⟩, trivial⟩, trivial⟩).at h⟩
theorem ke_M_saidL9 : chkE GXL9 3000 454 ct_M_saidL9 = true := by decide +kernel
theorem kk_M_saidL9 : Chk GXL9 3000 454 ct_M_saidL9 := ⟨ke_M_saidL9, fun pc as h => (show BT.AllP (fun pc as => ∀ a ∈ as, chkA GXL9 3000 454 ct_M_saidL9 pc a = true) ct_M_saidL9.cut from trivial).at h⟩
theorem ke_M_variableL9 : chkE GXL9 3000 455 ct_M_variable = true := by decide +kernel
theorem kk_M_variableL9 : Chk GXL9 3000 455 ct_M_variable := ⟨ke_M_variableL9, fun pc as h => (show BT.AllP (fun pc as => ∀ a ∈ as, chkA GXL9 3000 455 ct_M_variable pc a = true) ct_M_variable.cut from trivial).at h⟩
theorem ke_M_guardedL9 : chkE GXL9 3000 456 ct_M_guardedL9 = true := by decide +kernel
theorem kk_M_guardedL9 : Chk GXL9 3000 456 ct_M_guardedL9 := ⟨ke_M_guardedL9, fun pc as h => (show BT.AllP (fun pc as => ∀ a ∈ as, chkA GXL9 3000 456 ct_M_guardedL9 pc a = true) ct_M_guardedL9.cut from trivial).at h⟩
theorem ke_M_knowL9 : chkE GXL9 3000 457 ct_M_knowL9 = true := by decide +kernel
theorem ka_M_know_4_0L9 : chkA GXL9 3000 457 ct_M_knowL9 4 ca_M_know_4_0L9 = true := by decide +kernel
theorem kk_M_knowL9 : Chk GXL9 3000 457 ct_M_knowL9 := ⟨ke_M_knowL9, fun pc as h => (show BT.AllP (fun pc as => ∀ a ∈ as, chkA GXL9 3000 457 ct_M_knowL9 pc a = true) ct_M_knowL9.cut from ⟨⟨List.forall_mem_cons.mpr ⟨ka_M_know_4_0L9, fun a ha => by cases ha⟩, trivial⟩, trivial⟩).at h⟩
theorem ke_M_gatherL9 : chkE GXL9 3000 458 ct_M_gatherL9 = true := by decide +kernel
theorem ka_M_gather_2_0L9 : chkA GXL9 3000 458 ct_M_gatherL9 2 ca_M_gather_2_0L9 = true := by decide +kernel
theorem ka_M_gather_10_0L9 : chkA GXL9 3000 458 ct_M_gatherL9 10 ca_M_gather_10_0L9 = true := by decide +kernel
theorem ka_M_gather_17_0L9 : chkA GXL9 3000 458 ct_M_gatherL9 17 ca_M_gather_17_0L9 = true := by decide +kernel
theorem ka_M_gather_84_0L9 : chkA GXL9 3000 458 ct_M_gatherL9 84 ca_M_gather_84_0L9 = true := by decide +kernel
theorem ka_M_gather_91_0L9 : chkA GXL9 3000 458 ct_M_gatherL9 91 ca_M_gather_91_0L9 = true := by decide +kernel
theorem kk_M_gatherL9 : Chk GXL9 3000 458 ct_M_gatherL9 := ⟨ke_M_gatherL9, fun pc as h => (show BT.AllP (fun pc as => ∀ a ∈ as, chkA GXL9 3000 458 ct_M_gatherL9 pc a = true) ct_M_gatherL9.cut from ⟨⟨List.forall_mem_cons.mpr ⟨ka_M_gather_2_0L9, fun a ha => by cases ha⟩, List.forall_mem_cons.mpr ⟨ka_M_gather_10_0L9, fun a ha => by cases ha⟩, trivial⟩, ⟨List.forall_mem_cons.mpr ⟨ka_M_gather_17_0L9, fun a ha => by cases ha⟩, List.forall_mem_cons.mpr ⟨ka_M_gather_84_0L9, fun a ha => by cases ha⟩, trivial⟩, ⟨List.forall_mem_cons.mpr ⟨ka_M_gather_91_0L9, fun a ha => by cases ha⟩, trivial⟩, trivial⟩).at h⟩
theorem ke_M_linkL9 : chkE GXL9 3000 459 ct_M_linkL9 = true := by decide +kernel
theorem ka_M_link_2_0L9 : chkA GXL9 3000 459 ct_M_linkL9 2 ca_M_link_2_0L9 = true := by decide +kernel
theorem kk_M_linkL9 : Chk GXL9 3000 459 ct_M_linkL9 := ⟨ke_M_linkL9, fun pc as h => (show BT.AllP (fun pc as => ∀ a ∈ as, chkA GXL9 3000 459 ct_M_linkL9 pc a = true) ct_M_linkL9.cut from ⟨⟨List.forall_mem_cons.mpr ⟨ka_M_link_2_0L9, fun a ha => by cases ha⟩, trivial⟩, trivial⟩).at h⟩
theorem ke_M_powerL9 : chkE GXL9 3000 460 ct_M_powerL9 = true := by decide +kernel
theorem ka_M_power_9_0L9 : chkA GXL9 3000 460 ct_M_powerL9 9 ca_M_power_9_0L9 = true := by decide +kernel
theorem kk_M_powerL9 : Chk GXL9 3000 460 ct_M_powerL9 := ⟨ke_M_powerL9, fun pc as h => (show BT.AllP (fun pc as => ∀ a ∈ as, chkA GXL9 3000 460 ct_M_powerL9 pc a = true) ct_M_powerL9.cut from ⟨⟨List.forall_mem_cons.mpr ⟨ka_M_power_9_0L9, fun a ha => by cases ha⟩, trivial⟩, trivial⟩).at h⟩
theorem ke_M_rankWithL9 : chkE GXL9 3000 461 ct_M_rankWithL9 = true := by decide +kernel
theorem ka_M_rankWith_17_0L9 : chkA GXL9 3000 461 ct_M_rankWithL9 17 ca_M_rankWith_17_0L9 = true := by decide +kernel
theorem ka_M_rankWith_45_0L9 : chkA GXL9 3000 461 ct_M_rankWithL9 45 ca_M_rankWith_45_0L9 = true := by decide +kernel
theorem ka_M_rankWith_89_0L9 : chkA GXL9 3000 461 ct_M_rankWithL9 89 ca_M_rankWith_89_0L9 = true := by decide +kernel
theorem ka_M_rankWith_99_0L9 : chkA GXL9 3000 461 ct_M_rankWithL9 99 ca_M_rankWith_99_0L9 = true := by decide +kernel
theorem ka_M_rankWith_141_0L9 : chkA GXL9 3000 461 ct_M_rankWithL9 141 ca_M_rankWith_141_0L9 = true := by decide +kernel
theorem ka_M_rankWith_233_0L9 : chkA GXL9 3000 461 ct_M_rankWithL9 233 ca_M_rankWith_233_0L9 = true := by decide +kernel
theorem ka_M_rankWith_265_0L9 : chkA GXL9 3000 461 ct_M_rankWithL9 265 ca_M_rankWith_265_0L9 = true := by decide +kernel
theorem kk_M_rankWithL9 : Chk GXL9 3000 461 ct_M_rankWithL9 := ⟨ke_M_rankWithL9, fun pc as h => (show BT.AllP (fun pc as => ∀ a ∈ as, chkA GXL9 3000 461 ct_M_rankWithL9 pc a = true) ct_M_rankWithL9.cut from ⟨⟨List.forall_mem_cons.mpr ⟨ka_M_rankWith_17_0L9, fun a ha => by cases ha⟩, List.forall_mem_cons.mpr ⟨ka_M_rankWith_45_0L9, fun a ha => by cases ha⟩, trivial⟩, ⟨List.forall_mem_cons.mpr ⟨ka_M_rankWith_89_0L9, fun a ha => by cases ha⟩, List.forall_mem_cons.mpr ⟨ka_M_rankWith_99_0L9, fun a ha => by cases ha⟩, trivial⟩, ⟨List.forall_mem_cons.mpr ⟨ka_M_rankWith_141_0L9, fun a ha => by cases ha⟩, List.forall_mem_cons.mpr ⟨ka_M_rankWith_233_0L9, fun a ha => by cases ha⟩, trivial⟩, ⟨List.forall_mem_cons.mpr ⟨ka_M_rankWith_265_0L9, fun a ha => by cases ha⟩, trivial⟩, trivial⟩).at h⟩
theorem ke_M_tellsOneL9 : chkE GXL9 3000 462 ct_M_tellsOneL9 = true := by decide +kernel
theorem ka_M_tellsOne_10_0L9 : chkA GXL9 3000 462 ct_M_tellsOneL9 10 ca_M_tellsOne_10_0L9 = true := by decide +kernel
theorem kk_M_tellsOneL9 : Chk GXL9 3000 462 ct_M_tellsOneL9 := ⟨ke_M_tellsOneL9, fun pc as h => (show BT.AllP (fun pc as => ∀ a ∈ as, chkA GXL9 3000 462 ct_M_tellsOneL9 pc a = true) ct_M_tellsOneL9.cut from ⟨⟨List.forall_mem_cons.mpr ⟨ka_M_tellsOne_10_0L9, fun a ha => by cases ha⟩, trivial⟩, trivial⟩).at h⟩
theorem ke_M_addedL9 : chkE GXL9 3000 463 ct_M_addedL9 = true := by decide +kernel
theorem ka_M_added_5_0L9 : chkA GXL9 3000 463 ct_M_addedL9 5 ca_M_added_5_0L9 = true := by decide +kernel
theorem kk_M_addedL9 : Chk GXL9 3000 463 ct_M_addedL9 := ⟨ke_M_addedL9, fun pc as h => (show BT.AllP (fun pc as => ∀ a ∈ as, chkA GXL9 3000 463 ct_M_addedL9 pc a = true) ct_M_addedL9.cut from ⟨⟨List.forall_mem_cons.mpr ⟨ka_M_added_5_0L9, fun a ha => by cases ha⟩, trivial⟩, trivial⟩).at h⟩
theorem ke_M_sumL9 : chkE GXL9 3000 464 ct_M_sumL9 = true := by decide +kernel
theorem ka_M_sum_40_0L9 : chkA GXL9 3000 464 ct_M_sumL9 40 ca_M_sum_40_0 = true := by decide +kernel
theorem kk_M_sumL9 : Chk GXL9 3000 464 ct_M_sumL9 := ⟨ke_M_sumL9, fun pc as h => (show BT.AllP (fun pc as => ∀ a ∈ as, chkA GXL9 3000 464 ct_M_sumL9 pc a = true) ct_M_sumL9.cut from ⟨⟨List.forall_mem_cons.mpr ⟨ka_M_sum_40_0L9, fun a ha => by cases ha⟩, trivial⟩, trivial⟩).at h⟩
theorem ke_M_shareL9 : chkE GXL9 3000 465 ct_M_shareL9 = true := by decide +kernel
theorem kk_M_shareL9 : Chk GXL9 3000 465 ct_M_shareL9 := ⟨ke_M_shareL9, fun pc as h => (show BT.AllP (fun pc as => ∀ a ∈ as, chkA GXL9 3000 465 ct_M_shareL9 pc a = true) ct_M_shareL9.cut from trivial).at h⟩
theorem ke_M_knowsL9 : chkE GXL9 3000 466 ct_M_knowsL9 = true := by decide +kernel
theorem kk_M_knowsL9 : Chk GXL9 3000 466 ct_M_knowsL9 := ⟨ke_M_knowsL9, fun pc as h => (show BT.AllP (fun pc as => ∀ a ∈ as, chkA GXL9 3000 466 ct_M_knowsL9 pc a = true) ct_M_knowsL9.cut from trivial).at h⟩
theorem ke_M_roomL9 : chkE GXL9 3000 467 ct_M_room = true := by decide +kernel
theorem kk_M_roomL9 : Chk GXL9 3000 467 ct_M_room := ⟨ke_M_roomL9, fun pc as h => (show BT.AllP (fun pc as => ∀ a ∈ as, chkA GXL9 3000 467 ct_M_room pc a = true) ct_M_room.cut from trivial).at h⟩
theorem ke_M_methodL9 : chkE GXL9 3000 468 ct_M_method = true := by decide +kernel
theorem kk_M_methodL9 : Chk GXL9 3000 468 ct_M_method := ⟨ke_M_methodL9, fun pc as h => (show BT.AllP (fun pc as => ∀ a ∈ as, chkA GXL9 3000 468 ct_M_method pc a = true) ct_M_method.cut from trivial).at h⟩
theorem ke_M_opL9 : chkE GXL9 3000 469 ct_M_opL9 = true := by decide +kernel
theorem kk_M_opL9 : Chk GXL9 3000 469 ct_M_opL9 := ⟨ke_M_opL9, fun pc as h => (show BT.AllP (fun pc as => ∀ a ∈ as, chkA GXL9 3000 469 ct_M_opL9 pc a = true) ct_M_opL9.cut from trivial).at h⟩
theorem ke_M_lackingL9 : chkE GXL9 3000 471 ct_M_lackingL9 = true := by decide +kernel
theorem ka_M_lacking_7_0L9 : chkA GXL9 3000 471 ct_M_lackingL9 7 ca_M_lacking_7_0L9 = true := by decide +kernel
theorem kk_M_lackingL9 : Chk GXL9 3000 471 ct_M_lackingL9 := ⟨ke_M_lackingL9, fun pc as h => (show BT.AllP (fun pc as => ∀ a ∈ as, chkA GXL9 3000 471 ct_M_lackingL9 pc a = true) ct_M_lackingL9.cut from ⟨⟨List.forall_mem_cons.mpr ⟨ka_M_lacking_7_0L9, fun a ha => by cases ha⟩, trivial⟩, trivial⟩).at h⟩
theorem ke_M_isCaughtL9 : chkE GXL9 3000 472 ct_M_isCaughtL9 = true := by decide +kernel
theorem ka_M_isCaught_45_0L9 : chkA GXL9 3000 472 ct_M_isCaughtL9 45 ca_M_isCaught_45_0 = true := by decide +kernel
theorem kk_M_isCaughtL9 : Chk GXL9 3000 472 ct_M_isCaughtL9 := ⟨ke_M_isCaughtL9, fun pc as h => (show BT.AllP (fun pc as => ∀ a ∈ as, chkA GXL9 3000 472 ct_M_isCaughtL9 pc a = true) ct_M_isCaughtL9.cut from ⟨⟨List.forall_mem_cons.mpr ⟨ka_M_isCaught_45_0L9, fun a ha => by cases ha⟩, trivial⟩, trivial⟩).at h⟩
theorem ke_M_enterL9 : chkE GXL9 3000 473 ct_M_enterL9 = true := by decide +kernel
theorem ka_M_enter_32_0L9 : chkA GXL9 3000 473 ct_M_enterL9 32 ca_M_enter_32_0L9 = true := by decide +kernel
theorem ka_M_enter_32_1L9 : chkA GXL9 3000 473 ct_M_enterL9 32 ca_M_enter_32_1L9 = true := by decide +kernel
theorem ka_M_enter_83_0L9 : chkA GXL9 3000 473 ct_M_enterL9 83 ca_M_enter_83_0L9 = true := by decide +kernel
theorem kk_M_enterL9 : Chk GXL9 3000 473 ct_M_enterL9 := ⟨ke_M_enterL9, fun pc as h => (show BT.AllP (fun pc as => ∀ a ∈ as, chkA GXL9 3000 473 ct_M_enterL9 pc a = true) ct_M_enterL9.cut from ⟨⟨List.forall_mem_cons.mpr ⟨ka_M_enter_32_0L9, List.forall_mem_cons.mpr ⟨ka_M_enter_32_1L9, fun a ha => by cases ha⟩⟩, trivial⟩, ⟨List.forall_mem_cons.mpr ⟨ka_M_enter_83_0L9, fun a ha => by cases ha⟩, trivial⟩, trivial⟩).at h⟩
theorem ke_M_enteredL9 : chkE GXL9 3000 474 ct_M_entered = true := by decide +kernel
theorem kk_M_enteredL9 : Chk GXL9 3000 474 ct_M_entered := ⟨ke_M_enteredL9, fun pc as h => (show BT.AllP (fun pc as => ∀ a ∈ as, chkA GXL9 3000 474 ct_M_entered pc a = true) ct_M_entered.cut from trivial).at h⟩
theorem ke_M_half : chkE GXL9 3000 476 ct_M_halfL9 = true := by decide +kernel
theorem ka_M_half_57_0 : chkA GXL9 3000 476 ct_M_halfL9 57 ca_M_half_57_0 = true := by decide +kernel
theorem kk_M_half : Chk GXL9 3000 476 ct_M_halfL9 := ⟨ke_M_half, fun pc as h => (show BT.AllP (fun pc as => ∀ a ∈ as, chkA GXL9 3000 476 ct_M_halfL9 pc a = true) ct_M_halfL9.cut from ⟨⟨List.forall_mem_cons.mpr ⟨ka_M_half_57_0, fun a ha => by cases ha⟩, trivial⟩, trivial⟩).at h⟩
theorem ke_M_joined : chkE GXL9 3000 477 ct_M_joinedL9 = true := by decide +kernel
theorem ka_M_joined_31_0 : chkA GXL9 3000 477 ct_M_joinedL9 31 ca_M_joined_31_0L9 = true := by decide +kernel
theorem ka_M_joined_73_0 : chkA GXL9 3000 477 ct_M_joinedL9 73 ca_M_joined_73_0L9 = true := by decide +kernel
theorem ka_M_joined_111_0 : chkA GXL9 3000 477 ct_M_joinedL9 111 ca_M_joined_111_0L9 = true := by decide +kernel
theorem ka_M_joined_134_0 : chkA GXL9 3000 477 ct_M_joinedL9 134 ca_M_joined_134_0 = true := by decide +kernel
theorem kk_M_joined : Chk GXL9 3000 477 ct_M_joinedL9 := ⟨ke_M_joined, fun pc as h => (show BT.AllP (fun pc as => ∀ a ∈ as, chkA GXL9 3000 477 ct_M_joinedL9 pc a = true) ct_M_joinedL9.cut from ⟨⟨List.forall_mem_cons.mpr ⟨ka_M_joined_31_0, fun a ha => by cases ha⟩, List.forall_mem_cons.mpr ⟨ka_M_joined_73_0, fun a ha => by cases ha⟩, trivial⟩, ⟨List.forall_mem_cons.mpr ⟨ka_M_joined_111_0, fun a ha => by cases ha⟩, List.forall_mem_cons.mpr ⟨ka_M_joined_134_0, fun a ha => by cases ha⟩, trivial⟩, trivial⟩).at h⟩
