theorem ka_M_gets_2_8L9 : chkA GXL9 3000 438 ct_M_getsL9 2 ca_M_gets_2_8L9 = true := by decide +kernel
theorem ka_M_gets_2_9L9 : chkA GXL9 3000 438 ct_M_getsL9 2 ca_M_gets_2_9L9 = true := by decide +kernel
theorem ka_M_gets_2_10L9 : chkA GXL9 3000 438 ct_M_getsL9 2 ca_M_gets_2_10L9 = true := by decide +kernel
theorem ka_M_gets_2_11L9 : chkA GXL9 3000 438 ct_M_getsL9 2 ca_M_gets_2_11L9 = true := by decide +kernel
theorem ka_M_gets_2_12L9 : chkA GXL9 3000 438 ct_M_getsL9 2 ca_M_gets_2_12L9 = true := by decide +kernel
theorem ka_M_gets_2_13L9 : chkA GXL9 3000 438 ct_M_getsL9 2 ca_M_gets_2_13L9 = true := by decide +kernel
theorem ka_M_gets_2_14L9 : chkA GXL9 3000 438 ct_M_getsL9 2 ca_M_gets_2_14L9 = true := by decide +kernel
theorem ka_M_gets_2_15L9 : chkA GXL9 3000 438 ct_M_getsL9 2 ca_M_gets_2_15L9 = true := by decide +kernel
theorem kk_M_getsL9 : Chk GXL9 3000 438 ct_M_getsL9 := ⟨ke_M_getsL9, fun pc as h => (show BT.AllP (fun pc as => ∀ a ∈ as, chkA GXL9 3000 438 ct_M_getsL9 pc a = true) ct_M_getsL9.cut from ⟨⟨List.forall_mem_cons.mpr ⟨ka_M_gets_2_0L9, List.forall_mem_cons.mpr ⟨ka_M_gets_2_1L9, List.forall_mem_cons.mpr ⟨ka_M_gets_2_2L9, List.forall_mem_cons.mpr ⟨ka_M_gets_2_3L9, List.forall_mem_cons.mpr ⟨ka_M_gets_2_4L9, List.forall_mem_cons.mpr ⟨ka_M_gets_2_5L9, List.forall_mem_cons.mpr ⟨ka_M_gets_2_6L9, List.forall_mem_cons.mpr ⟨ka_M_gets_2_7L9, List.forall_mem_cons.mpr ⟨ka_M_gets_2_8L9, List.forall_mem_cons.mpr ⟨ka_M_gets_2_9L9, List.forall_mem_cons.mpr ⟨ka_M_gets_2_10L9, List.forall_mem_cons.mpr ⟨ka_M_gets_2_11L9, List.forall_mem_cons.mpr ⟨ka_M_gets_2_12L9, List.forall_mem_cons.mpr ⟨ka_M_gets_2_13L9, List.forall_mem_cons.mpr ⟨ka_M_gets_2_14L9, List.forall_mem_cons.mpr ⟨ka_M_gets_2_15L9, fun a ha => by cases ha⟩⟩⟩⟩⟩⟩⟩⟩⟩⟩⟩⟩⟩⟩⟩⟩, trivial⟩, trivial⟩).at h⟩
theorem ke_M_growL9 : chkE GXL9 3000 439 ct_M_growL9 = true := by decide +kernel
theorem ka_M_grow_2_0L9 : chkA GXL9 3000 439 ct_M_growL9 2 ca_M_grow_2_0L9 = true := by decide +kernel
theorem ka_M_grow_34_0L9 : chkA GXL9 3000 439 ct_M_growL9 34 ca_M_grow_34_0L9 = true := by decide +kernel
theorem ka_M_grow_49_0L9 : chkA GXL9 3000 439 ct_M_growL9 49 ca_M_grow_49_0L9 = true := by decide +kernel
theorem ka_M_grow_57_0L9 : chkA GXL9 3000 439 ct_M_growL9 57 ca_M_grow_57_0 = true := by decide +kernel
theorem ka_M_grow_66_0L9 : chkA GXL9 3000 439 ct_M_growL9 66 ca_M_grow_66_0L9 = true := by decide +kernel
theorem kk_M_growL9 : Chk GXL9 3000 439 ct_M_growL9 := ⟨ke_M_growL9, fun pc as h => (show BT.AllP (fun pc as => ∀ a ∈ as, chkA GXL9 3000 439 ct_M_growL9 pc a = true) ct_M_growL9.cut from ⟨⟨List.forall_mem_cons.mpr ⟨ka_M_grow_2_0L9, fun a ha => by cases ha⟩, List.forall_mem_cons.mpr ⟨ka_M_grow_34_0L9, fun a ha => by cases ha⟩, trivial⟩, ⟨List.forall_mem_cons.mpr ⟨ka_M_grow_49_0L9, fun a ha => by cases ha⟩, List.forall_mem_cons.mpr ⟨ka_M_grow_57_0L9, fun a ha => by cases ha⟩, trivial⟩, ⟨List.forall_mem_cons.mpr ⟨ka_M_grow_66_0L9, fun a ha => by cases ha⟩, trivial⟩, trivial⟩).at h⟩
theorem ke_M_keyL9 : chkE GXL9 3000 440 ct_M_keyL9 = true := by decide +kernel
theorem kk_M_keyL9 : Chk GXL9 3000 440 ct_M_keyL9 := ⟨ke_M_keyL9, fun pc as h => (show BT.AllP (fun pc as => ∀ a ∈ as, chkA GXL9 3000 440 ct_M_keyL9 pc a = true) ct_M_keyL9.cut from trivial).at h⟩
theorem ke_M_everL9 : chkE GXL9 3000 441 ct_M_everL9 = true := by decide +kernel
theorem ka_M_ever_68_0L9 : chkA GXL9 3000 441 ct_M_everL9 68 ca_M_ever_68_0L9 = true := by decide +kernel
theorem kk_M_everL9 : Chk GXL9 3000 441 ct_M_everL9 := ⟨ke_M_everL9, fun pc as h => (show BT.AllP (fun pc as => ∀ a ∈ as, chkA GXL9 3000 441 ct_M_everL9 pc a = true) ct_M_everL9.cut from ⟨⟨List.forall_mem_cons.mpr ⟨ka_M_ever_68_0L9, fun a ha => by cases ha⟩, trivial⟩, trivial⟩).at h⟩
theorem ke_M_gainL9 : chkE GXL9 3000 442 ct_M_gainL9 = true := by decide +kernel
theorem kk_M_gainL9 : Chk GXL9 3000 442 ct_M_gainL9 := ⟨ke_M_gainL9, fun pc as h => (show BT.AllP (fun pc as => ∀ a ∈ as, chkA GXL9 3000 442 ct_M_gainL9 pc a = true) ct_M_gainL9.cut from trivial).at h⟩
theorem ke_M_labelledL9 : chkE GXL9 3000 443 ct_M_labelledL9 = true := by decide +kernel
theorem ka_M_labelled_2_0L9 : chkA GXL9 3000 443 ct_M_labelledL9 2 ca_M_labelled_2_0L9 = true := by decide +kernel
theorem kk_M_labelledL9 : Chk GXL9 3000 443 ct_M_labelledL9 := ⟨ke_M_labelledL9, fun pc as h => (show BT.AllP (fun pc as => ∀ a ∈ as, chkA GXL9 3000 443 ct_M_labelledL9 pc a = true) ct_M_labelledL9.cut from ⟨⟨List.forall_mem_cons.mpr ⟨ka_M_labelled_2_0L9, fun a ha => by cases ha⟩, trivial⟩, trivial⟩).at h⟩
theorem ke_M_labelL9 : chkE GXL9 3000 444 ct_M_labelL9 = true := by decide +kernel
theorem kk_M_labelL9 : Chk GXL9 3000 444 ct_M_labelL9 := ⟨ke_M_labelL9, fun pc as h => (show BT.AllP (fun pc as => ∀ a ∈ as, chkA GXL9 3000 444 ct_M_labelL9 pc a = true) ct_M_labelL9.cut from trivial).at h⟩
theorem ke_M_statementL9 : chkE GXL9 3000 447 ct_M_statementL9 = true := by decide +kernel
theorem ka_M_statement_169_0L9 : chkA GXL9 3000 447 ct_M_statementL9 169 ca_M_statement_169_0L9 = true := by decide +kernel
theorem kk_M_statementL9 : Chk GXL9 3000 447 ct_M_statementL9 := ⟨ke_M_statementL9, fun pc as h => (show BT.AllP (fun pc as => ∀ a ∈ as, chkA GXL9 3000 447 ct_M_statementL9 pc a = true) ct_M_statementL9.cut from ⟨⟨List.forall_mem_cons.mpr ⟨ka_M_statement_169_0L9, fun a ha => by cases ha⟩, trivial⟩, trivial⟩).at h⟩
theorem ke_M_eraseL9 : chkE GXL9 3000 448 ct_M_eraseL9 = true := by decide +kernel
theorem kk_M_eraseL9 : Chk GXL9 3000 448 ct_M_eraseL9 := ⟨ke_M_eraseL9, fun pc as h => (show BT.AllP (fun pc as => ∀ a ∈ as, chkA GXL9 3000 448 ct_M_eraseL9 pc a = true) ct_M_eraseL9.cut from trivial).at h⟩
theorem ke_M_tightL9 : chkE GXL9 3000 449 ct_M_tightL9 = true := by decide +kernel
theorem ka_M_tight_6_0L9 : chkA GXL9 3000 449 ct_M_tightL9 6 ca_M_tight_6_0L9 = true := by decide +kernel
theorem ka_M_tight_20_0L9 : chkA GXL9 3000 449 ct_M_tightL9 20 ca_M_tight_20_0 = true := by decide +kernel
theorem kk_M_tightL9 : Chk GXL9 3000 449 ct_M_tightL9 := ⟨ke_M_tightL9, fun pc as h => (show BT.AllP (fun pc as => ∀ a ∈ as, chkA GXL9 3000 449 ct_M_tightL9 pc a = true) ct_M_tightL9.cut from ⟨⟨List.forall_mem_cons.mpr ⟨ka_M_tight_6_0L9, fun a ha => by cases ha⟩, trivial⟩, ⟨List.forall_mem_cons.mpr ⟨ka_M_tight_20_0L9, fun a ha => by cases ha⟩, trivial⟩, trivial⟩).at h⟩
theorem ke_M_loweredL9 : chkE GXL9 3000 450 ct_M_loweredL9 = true := by decide +kernel
theorem ka_M_lowered_4_0L9 : chkA GXL9 3000 450 ct_M_loweredL9 4 ca_M_lowered_4_0L9 = true := by decide +kernel
theorem kk_M_loweredL9 : Chk GXL9 3000 450 ct_M_loweredL9 := ⟨ke_M_loweredL9, fun pc as h => (show BT.AllP (fun pc as => ∀ a ∈ as, chkA GXL9 3000 450 ct_M_loweredL9 pc a = true) ct_M_loweredL9.cut from ⟨⟨List.forall_mem_cons.mpr ⟨ka_M_lowered_4_0L9, fun a ha => by cases ha⟩, trivial⟩, trivial⟩).at h⟩
theorem ke_M_givenL9 : chkE GXL9 3000 451 ct_M_givenL9 = true := by decide +kernel
theorem kk_M_givenL9 : Chk GXL9 3000 451 ct_M_givenL9 := ⟨ke_M_givenL9, fun pc as h => (show BT.AllP (fun pc as => ∀ a ∈ as, chkA GXL9 3000 451 ct_M_givenL9 pc a = true) ct_M_givenL9.cut from trivial).at h⟩
theorem ke_M_flowL9 : chkE GXL9 3000 453 ct_M_flowL9 = true := by decide +kernel
theorem ka_M_flow_16_0L9 : chkA GXL9 3000 453 ct_M_flowL9 16 ca_M_flow_16_0L9 = true := by decide +kernel
theorem ka_M_flow_42_0L9 : chkA GXL9 3000 453 ct_M_flowL9 42 ca_M_flow_42_0L9 = true := by decide +kernel
