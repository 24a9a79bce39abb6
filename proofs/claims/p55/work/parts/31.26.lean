theorem ka_M_flow_67_0 : chkA GX 3000 453 ct_M_flow 67 ca_M_flow_67_0 = true := by decide +kernel
theorem kk_M_flow : Chk GX 3000 453 ct_M_flow := ⟨ke_M_flow, fun pc as h => (show BT.AllP (fun pc as => ∀ a ∈ as, chkA GX 3000 453 ct_M_flow pc a = true) ct_M_flow.cut from ⟨⟨List.forall_mem_cons.mpr ⟨ka_M_flow_16_0, fun a ha => by cases ha⟩, trivial⟩, ⟨List.forall_mem_cons.mpr ⟨ka_M_flow_42_0, fun a ha => by cases ha⟩, trivial⟩, ⟨List.forall_mem_cons.mpr ⟨ka_M_flow_67_0, fun a ha => by cases ha⟩, trivial⟩, trivial⟩).at h⟩
theorem ke_M_said : chkE GX 3000 454 ct_M_said = true := by decide +kernel
theorem kk_M_said : Chk GX 3000 454 ct_M_said := ⟨ke_M_said, fun pc as h => (show BT.AllP (fun pc as => ∀ a ∈ as, chkA GX 3000 454 ct_M_said pc a = true) ct_M_said.cut from trivial).at h⟩
theorem ke_M_variable : chkE GX 3000 455 ct_M_variable = true := by decide +kernel
theorem kk_M_variable : Chk GX 3000 455 ct_M_variable := ⟨ke_M_variable, fun pc as h => (show BT.AllP (fun pc as => ∀ a ∈ as, chkA GX 3000 455 ct_M_variable pc a = true) ct_M_variable.cut from trivial).at h⟩
theorem ke_M_guarded : chkE GX 3000 456 ct_M_guarded = true := by decide +kernel
theorem kk_M_guarded : Chk GX 3000 456 ct_M_guarded := ⟨ke_M_guarded, fun pc as h => (show BT.AllP (fun pc as => ∀ a ∈ as, chkA GX 3000 456 ct_M_guarded pc a = true) ct_M_guarded.cut from trivial).at h⟩
theorem ke_M_know : chkE GX 3000 457 ct_M_know = true := by decide +kernel
theorem ka_M_know_4_0 : chkA GX 3000 457 ct_M_know 4 ca_M_know_4_0 = true := by decide +kernel
theorem kk_M_know : Chk GX 3000 457 ct_M_know := ⟨ke_M_know, fun pc as h => (show BT.AllP (fun pc as => ∀ a ∈ as, chkA GX 3000 457 ct_M_know pc a = true) ct_M_know.cut from ⟨⟨List.forall_mem_cons.mpr ⟨ka_M_know_4_0, fun a ha => by cases ha⟩, trivial⟩, trivial⟩).at h⟩
theorem ke_M_gather : chkE GX 3000 458 ct_M_gather = true := by decide +kernel
theorem ka_M_gather_2_0 : chkA GX 3000 458 ct_M_gather 2 ca_M_gather_2_0 = true := by decide +kernel
theorem ka_M_gather_10_0 : chkA GX 3000 458 ct_M_gather 10 ca_M_gather_10_0 = true := by decide +kernel
theorem ka_M_gather_17_0 : chkA GX 3000 458 ct_M_gather 17 ca_M_gather_17_0 = true := by decide +kernel
theorem ka_M_gather_84_0 : chkA GX 3000 458 ct_M_gather 84 ca_M_gather_84_0 = true := by decide +kernel
theorem ka_M_gather_91_0 : chkA GX 3000 458 ct_M_gather 91 ca_M_gather_91_0 = true := by decide +kernel
theorem kk_M_gather : Chk GX 3000 458 ct_M_gather := ⟨ke_M_gather, fun pc as h => (show BT.AllP (fun pc as => ∀ a ∈ as, chkA GX 3000 458 ct_M_gather pc a = true) ct_M_gather.cut from ⟨⟨List.forall_mem_cons.mpr ⟨ka_M_gather_2_0, fun a ha => by cases ha⟩, List.forall_mem_cons.mpr ⟨ka_M_gather_10_0, fun a ha => by cases ha⟩, trivial⟩, ⟨List.forall_mem_cons.mpr ⟨ka_M_gather_17_0, fun a ha => by cases ha⟩, List.forall_mem_cons.mpr ⟨ka_M_gather_84_0, fun a ha => by cases ha⟩, trivial⟩, ⟨List.forall_mem_cons.mpr ⟨ka_M_gather_91_0, fun a ha => by cases ha⟩, trivial⟩, trivial⟩).at h⟩
theorem ke_M_link : chkE GX 3000 459 ct_M_link = true := by decide +kernel
theorem ka_M_link_2_0 : chkA GX 3000 459 ct_M_link 2 ca_M_link_2_0 = true := by decide +kernel
theorem kk_M_link : Chk GX 3000 459 ct_M_link := ⟨ke_M_link, fun pc as h => (show BT.AllP (fun pc as => ∀ a ∈ as, chkA GX 3000 459 ct_M_link pc a = true) ct_M_link.cut from ⟨⟨List.forall_mem_cons.mpr ⟨ka_M_link_2_0, fun a ha => by cases ha⟩, trivial⟩, trivial⟩).at h⟩
theorem ke_M_power : chkE GX 3000 460 ct_M_power = true := by decide +kernel
theorem ka_M_power_9_0 : chkA GX 3000 460 ct_M_power 9 ca_M_power_9_0 = true := by decide +kernel
theorem kk_M_power : Chk GX 3000 460 ct_M_power := ⟨ke_M_power, fun pc as h => (show BT.AllP (fun pc as => ∀ a ∈ as, chkA GX 3000 460 ct_M_power pc a = true) ct_M_power.cut from ⟨⟨List.forall_mem_cons.mpr ⟨ka_M_power_9_0, fun a ha => by cases ha⟩, trivial⟩, trivial⟩).at h⟩
theorem ke_M_rankWith : chkE GX 3000 461 ct_M_rankWith = true := by decide +kernel
theorem ka_M_rankWith_17_0 : chkA GX 3000 461 ct_M_rankWith 17 ca_M_rankWith_17_0 = true := by decide +kernel
theorem ka_M_rankWith_45_0 : chkA GX 3000 461 ct_M_rankWith 45 ca_M_rankWith_45_0 = true := by decide +kernel
theorem ka_M_rankWith_89_0 : chkA GX 3000 461 ct_M_rankWith 89 ca_M_rankWith_89_0 = true := by decide +kernel
theorem ka_M_rankWith_99_0 : chkA GX 3000 461 ct_M_rankWith 99 ca_M_rankWith_99_0 = true := by decide +kernel
theorem ka_M_rankWith_141_0 : chkA GX 3000 461 ct_M_rankWith 141 ca_M_rankWith_141_0 = true := by decide +kernel
theorem ka_M_rankWith_233_0 : chkA GX 3000 461 ct_M_rankWith 233 ca_M_rankWith_233_0 = true := by decide +kernel
theorem ka_M_rankWith_265_0 : chkA GX 3000 461 ct_M_rankWith 265 ca_M_rankWith_265_0 = true := by decide +kernel
theorem kk_M_rankWith : Chk GX 3000 461 ct_M_rankWith := ⟨ke_M_rankWith, fun pc as h => (show BT.AllP (fun pc as => ∀ a ∈ as, chkA GX 3000 461 ct_M_rankWith pc a = true) ct_M_rankWith.cut from ⟨⟨List.forall_mem_cons.mpr ⟨ka_M_rankWith_17_0, fun a ha => by cases ha⟩, List.forall_mem_cons.mpr ⟨ka_M_rankWith_45_0, fun a ha => by cases ha⟩, trivial⟩, ⟨List.forall_mem_cons.mpr ⟨ka_M_rankWith_89_0, fun a ha => by cases ha⟩, List.forall_mem_cons.mpr ⟨ka_M_rankWith_99_0, fun a ha => by cases ha⟩, trivial⟩, ⟨List.forall_mem_cons.mpr ⟨ka_M_rankWith_141_0, fun a ha => by cases ha⟩, List.forall_mem_cons.mpr ⟨ka_M_rankWith_233_0, fun a ha => by cases ha⟩, trivial⟩, ⟨List.forall_mem_cons.mpr ⟨ka_M_rankWith_265_0, fun a ha => by cases ha⟩, trivial⟩, trivial⟩).at h⟩
theorem ke_M_tellsOne : chkE GX 3000 462 ct_M_tellsOne = true := by decide +kernel
theorem ka_M_tellsOne_10_0 : chkA GX 3000 462 ct_M_tellsOne 10 ca_M_tellsOne_10_0 = true := by decide +kernel
theorem kk_M_tellsOne : Chk GX 3000 462 ct_M_tellsOne := ⟨ke_M_tellsOne, fun pc as h => (show BT.AllP (fun pc as => ∀ a ∈ as, chkA GX 3000 462 ct_M_tellsOne pc a = true) ct_M_tellsOne.cut from ⟨⟨List.forall_mem_cons.mpr ⟨ka_M_tellsOne_10_0, fun a ha => by cases ha⟩, trivial⟩, trivial⟩).at h⟩
theorem ke_M_added : chkE GX 3000 463 ct_M_added = true := by decide +kernel
theorem ka_M_added_5_0 : chkA GX 3000 463 ct_M_added 5 ca_M_added_5_0 = true := by decide +kernel
theorem kk_M_added : Chk GX 3000 463 ct_M_added := ⟨ke_M_added, fun pc as h => (show BT.AllP (fun pc as => ∀ a ∈ as, chkA GX 3000 463 ct_M_added pc a = true) ct_M_added.cut from ⟨⟨List.forall_mem_cons.mpr ⟨ka_M_added_5_0, fun a ha => by cases ha⟩, trivial⟩, trivial⟩).at h⟩
theorem ke_M_sum : chkE GX 3000 464 ct_M_sum = true := by decide +kernel
theorem ka_M_sum_40_0 : chkA GX 3000 464 ct_M_sum 40 ca_M_sum_40_0 = true := by decide +kernel
theorem kk_M_sum : Chk GX 3000 464 ct_M_sum := ⟨ke_M_sum, fun pc as h => (show BT.AllP (fun pc as => ∀ a ∈ as, chkA GX 3000 464 ct_M_sum pc a = true) ct_M_sum.cut from ⟨⟨List.forall_mem_cons.mpr ⟨ka_M_sum_40_0, fun a ha => by cases ha⟩, trivial⟩, trivial⟩).at h⟩
theorem ke_M_share : chkE GX 3000 465 ct_M_share = true := by decide +kernel
theorem kk_M_share : Chk GX 3000 465 ct_M_share := ⟨ke_M_share, fun pc as h => (show BT.AllP (fun pc as => ∀ a ∈ as, chkA GX 3000 465 ct_M_share pc a = true) ct_M_share.cut from trivial).at h⟩
theorem ke_M_knows : chkE GX 3000 466 ct_M_knows = true := by decide +kernel
theorem kk_M_knows : Chk GX 3000 466 ct_M_knows := ⟨ke_M_knows, fun pc as h => (show BT.AllP (fun pc as => ∀ a ∈ as, chkA GX 3000 466 ct_M_knows pc a = true) ct_M_knows.cut from trivial).at h⟩
theorem ke_M_room : chkE GX 3000 467 ct_M_room = true := by decide +kernel
theorem kk_M_room : Chk GX 3000 467 ct_M_room := ⟨ke_M_room, fun pc as h => (show BT.AllP (fun pc as => ∀ a ∈ as, chkA GX 3000 467 ct_M_room pc a = true) ct_M_room.cut from trivial).at h⟩
theorem ke_M_method : chkE GX 3000 468 ct_M_method = true := by decide +kernel
theorem kk_M_method : Chk GX 3000 468 ct_M_method := ⟨ke_M_method, fun pc as h => (show BT.AllP (fun pc as => ∀ a ∈ as, chkA GX 3000 468 ct_M_method pc a = true) ct_M_method.cut from trivial).at h⟩
theorem ke_M_op : chkE GX 3000 469 ct_M_op = true := by decide +kernel
theorem kk_M_op : Chk GX 3000 469 ct_M_op := ⟨ke_M_op, fun pc as h => (show BT.AllP (fun pc as => ∀ a ∈ as, chkA GX 3000 469 ct_M_op pc a = true) ct_M_op.cut from trivial).at h⟩
theorem ke_M_lacking : chkE GX 3000 471 ct_M_lacking = true := by decide +kernel
theorem ka_M_lacking_7_0 : chkA GX 3000 471 ct_M_lacking 7 ca_M_lacking_7_0 = true := by decide +kernel
theorem kk_M_lacking : Chk GX 3000 471 ct_M_lacking := ⟨ke_M_lacking, fun pc as h => (show BT.AllP (fun pc as => ∀ a ∈ as, chkA GX 3000 471 ct_M_lacking pc a = true) ct_M_lacking.cut from ⟨⟨List.forall_mem_cons.mpr ⟨ka_M_lacking_7_0, fun a ha => by cases ha⟩, trivial⟩, trivial⟩).at h⟩
theorem ke_M_isCaught : chkE GX 3000 472 ct_M_isCaught = true := by decide +kernel
theorem ka_M_isCaught_45_0 : chkA GX 3000 472 ct_M_isCaught 45 ca_M_isCaught_45_0 = true := by decide +kernel
theorem kk_M_isCaught : Chk GX 3000 472 ct_M_isCaught := ⟨ke_M_isCaught, fun pc as h => (show BT.AllP (fun pc as => ∀ a ∈ as, chkA GX 3000 472 ct_M_isCaught pc a = true) ct_M_isCaught.cut from ⟨⟨List.forall_mem_cons.mpr ⟨ka_M_isCaught_45_0, fun a ha => by cases ha⟩, trivial⟩, trivial⟩).at h⟩
theorem ke_M_enter : chkE GX 3000 473 ct_M_enter = true := by decide +kernel
theorem ka_M_enter_32_0 : chkA GX 3000 473 ct_M_enter 32 ca_M_enter_32_0 = true := by decide +kernel
theorem ka_M_enter_32_1 : chkA GX 3000 473 ct_M_enter 32 ca_M_enter_32_1 = true := by decide +kernel
theorem ka_M_enter_83_0 : chkA GX 3000 473 ct_M_enter 83 ca_M_enter_83_0 = true := by decide +kernel
theorem kk_M_enter : Chk GX 3000 473 ct_M_enter := ⟨ke_M_enter, fun pc as h => (show BT.AllP (fun pc as => ∀ a ∈ as, chkA GX 3000 473 ct_M_enter pc a = true) ct_M_enter.cut from ⟨⟨List.forall_mem_cons.mpr ⟨ka_M_enter_32_0, List.forall_mem_cons.mpr ⟨ka_M_enter_32_1, fun a ha => by cases ha⟩⟩, trivial⟩, ⟨List.forall_mem_cons.mpr ⟨ka_M_enter_83_0, fun a ha => by cases ha⟩, trivial⟩, trivial⟩).at h⟩
theorem ke_M_entered : chkE GX 3000 474 ct_M_entered = true := by decide +kernel
theorem kk_M_entered : Chk GX 3000 474 ct_M_entered := ⟨ke_M_entered, fun pc as h => (show BT.AllP (fun pc as => ∀ a ∈ as, chkA GX 3000 474 ct_M_entered pc a = true) ct_M_entered.cut from trivial).at h⟩
theorem ke_M_half : chkE GX 3000 476 ct_M_half = true := by decide +kernel
theorem ka_M_half_57_0 : chkA GX 3000 476 ct_M_half 57 ca_M_half_57_0 = true := by decide +kernel
theorem kk_M_half : Chk GX 3000 476 ct_M_half := ⟨ke_M_half, fun pc as h => (show BT.AllP (fun pc as => ∀ a ∈ as, chkA GX 3000 476 ct_M_half pc a = true) ct_M_half.cut from ⟨⟨List.forall_mem_cons.mpr ⟨ka_M_half_57_0, fun a ha => by cases ha⟩, trivial⟩, trivial⟩).at h⟩
theorem ke_M_joined : chkE GX 3000 477 ct_M_joined = true := by decide +kernel
theorem ka_M_joined_31_0 : chkA GX 3000 477 ct_M_joined 31 ca_M_joined_31_0 = true := by decide +kernel
theorem ka_M_joined_73_0 : chkA GX 3000 477 ct_M_joined 73 ca_M_joined_73_0 = true := by decide +kernel
theorem ka_M_joined_111_0 : chkA GX 3000 477 ct_M_joined 111 ca_M_joined_111_0 = true := by decide +kernel
theorem ka_M_joined_134_0 : chkA GX 3000 477 ct_M_joined 134 ca_M_joined_134_0 = true := by decide +kernel
theorem kk_M_joined : Chk GX 3000 477 ct_M_joined := ⟨ke_M_joined, fun pc as h => (show BT.AllP (fun pc as => ∀ a ∈ as, chkA GX 3000 477 ct_M_joined pc a = true) ct_M_joined.cut from ⟨⟨List.forall_mem_cons.mpr ⟨ka_M_joined_31_0, fun a ha => by cases ha⟩, List.forall_mem_cons.mpr ⟨ka_M_joined_73_0, fun a ha => by cases ha⟩, trivial⟩, ⟨List.forall_mem_cons.mpr ⟨ka_M_joined_111_0, fun a ha => by cases ha⟩, List.forall_mem_cons.mpr ⟨ka_M_joined_134_0, fun a ha => by cases ha⟩, trivial⟩, trivial⟩).at h⟩
