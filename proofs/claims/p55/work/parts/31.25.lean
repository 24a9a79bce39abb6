theorem ka_M_gets_2_8 : chkA GX 3000 438 ct_M_gets 2 ca_M_gets_2_8 = true := by decide +kernel
theorem ka_M_gets_2_9 : chkA GX 3000 438 ct_M_gets 2 ca_M_gets_2_9 = true := by decide +kernel
theorem ka_M_gets_2_10 : chkA GX 3000 438 ct_M_gets 2 ca_M_gets_2_10 = true := by decide +kernel
theorem ka_M_gets_2_11 : chkA GX 3000 438 ct_M_gets 2 ca_M_gets_2_11 = true := by decide +kernel
theorem ka_M_gets_2_12 : chkA GX 3000 438 ct_M_gets 2 ca_M_gets_2_12 = true := by decide +kernel
theorem ka_M_gets_2_13 : chkA GX 3000 438 ct_M_gets 2 ca_M_gets_2_13 = true := by decide +kernel
theorem ka_M_gets_2_14 : chkA GX 3000 438 ct_M_gets 2 ca_M_gets_2_14 = true := by decide +kernel
theorem ka_M_gets_2_15 : chkA GX 3000 438 ct_M_gets 2 ca_M_gets_2_15 = true := by decide +kernel
theorem kk_M_gets : Chk GX 3000 438 ct_M_gets := ⟨ke_M_gets, fun pc as h => (show BT.AllP (fun pc as => ∀ a ∈ as, chkA GX 3000 438 ct_M_gets pc a = true) ct_M_gets.cut from ⟨⟨List.forall_mem_cons.mpr ⟨ka_M_gets_2_0, List.forall_mem_cons.mpr ⟨ka_M_gets_2_1, List.forall_mem_cons.mpr ⟨ka_M_gets_2_2, List.forall_mem_cons.mpr ⟨ka_M_gets_2_3, List.forall_mem_cons.mpr ⟨ka_M_gets_2_4, List.forall_mem_cons.mpr ⟨ka_M_gets_2_5, List.forall_mem_cons.mpr ⟨ka_M_gets_2_6, List.forall_mem_cons.mpr ⟨ka_M_gets_2_7, List.forall_mem_cons.mpr ⟨ka_M_gets_2_8, List.forall_mem_cons.mpr ⟨ka_M_gets_2_9, List.forall_mem_cons.mpr ⟨ka_M_gets_2_10, List.forall_mem_cons.mpr ⟨ka_M_gets_2_11, List.forall_mem_cons.mpr ⟨ka_M_gets_2_12, List.forall_mem_cons.mpr ⟨ka_M_gets_2_13, List.forall_mem_cons.mpr ⟨ka_M_gets_2_14, List.forall_mem_cons.mpr ⟨ka_M_gets_2_15, fun a ha => by cases ha⟩⟩⟩⟩⟩⟩⟩⟩⟩⟩⟩⟩⟩⟩⟩⟩, trivial⟩, trivial⟩).at h⟩
theorem ke_M_grow : chkE GX 3000 439 ct_M_grow = true := by decide +kernel
theorem ka_M_grow_2_0 : chkA GX 3000 439 ct_M_grow 2 ca_M_grow_2_0 = true := by decide +kernel
theorem ka_M_grow_34_0 : chkA GX 3000 439 ct_M_grow 34 ca_M_grow_34_0 = true := by decide +kernel
theorem ka_M_grow_49_0 : chkA GX 3000 439 ct_M_grow 49 ca_M_grow_49_0 = true := by decide +kernel
theorem ka_M_grow_57_0 : chkA GX 3000 439 ct_M_grow 57 ca_M_grow_57_0 = true := by decide +kernel
theorem ka_M_grow_66_0 : chkA GX 3000 439 ct_M_grow 66 ca_M_grow_66_0 = true := by decide +kernel
theorem kk_M_grow : Chk GX 3000 439 ct_M_grow := ⟨ke_M_grow, fun pc as h => (show BT.AllP (fun pc as => ∀ a ∈ as, chkA GX 3000 439 ct_M_grow pc a = true) ct_M_grow.cut from ⟨⟨List.forall_mem_cons.mpr ⟨ka_M_grow_2_0, fun a ha => by cases ha⟩, List.forall_mem_cons.mpr ⟨ka_M_grow_34_0, fun a ha => by cases ha⟩, trivial⟩, ⟨List.forall_mem_cons.mpr ⟨ka_M_grow_49_0, fun a ha => by cases ha⟩, List.forall_mem_cons.mpr ⟨ka_M_grow_57_0, fun a ha => by cases ha⟩, trivial⟩, ⟨List.forall_mem_cons.mpr ⟨ka_M_grow_66_0, fun a ha => by cases ha⟩, trivial⟩, trivial⟩).at h⟩
theorem ke_M_key : chkE GX 3000 440 ct_M_key = true := by decide +kernel
theorem kk_M_key : Chk GX 3000 440 ct_M_key := ⟨ke_M_key, fun pc as h => (show BT.AllP (fun pc as => ∀ a ∈ as, chkA GX 3000 440 ct_M_key pc a = true) ct_M_key.cut from trivial).at h⟩
theorem ke_M_ever : chkE GX 3000 441 ct_M_ever = true := by decide +kernel
theorem ka_M_ever_68_0 : chkA GX 3000 441 ct_M_ever 68 ca_M_ever_68_0 = true := by decide +kernel
theorem kk_M_ever : Chk GX 3000 441 ct_M_ever := ⟨ke_M_ever, fun pc as h => (show BT.AllP (fun pc as => ∀ a ∈ as, chkA GX 3000 441 ct_M_ever pc a = true) ct_M_ever.cut from ⟨⟨List.forall_mem_cons.mpr ⟨ka_M_ever_68_0, fun a ha => by cases ha⟩, trivial⟩, trivial⟩).at h⟩
theorem ke_M_gain : chkE GX 3000 442 ct_M_gain = true := by decide +kernel
theorem kk_M_gain : Chk GX 3000 442 ct_M_gain := ⟨ke_M_gain, fun pc as h => (show BT.AllP (fun pc as => ∀ a ∈ as, chkA GX 3000 442 ct_M_gain pc a = true) ct_M_gain.cut from trivial).at h⟩
theorem ke_M_labelled : chkE GX 3000 443 ct_M_labelled = true := by decide +kernel
theorem ka_M_labelled_2_0 : chkA GX 3000 443 ct_M_labelled 2 ca_M_labelled_2_0 = true := by decide +kernel
theorem kk_M_labelled : Chk GX 3000 443 ct_M_labelled := ⟨ke_M_labelled, fun pc as h => (show BT.AllP (fun pc as => ∀ a ∈ as, chkA GX 3000 443 ct_M_labelled pc a = true) ct_M_labelled.cut from ⟨⟨List.forall_mem_cons.mpr ⟨ka_M_labelled_2_0, fun a ha => by cases ha⟩, trivial⟩, trivial⟩).at h⟩
theorem ke_M_label : chkE GX 3000 444 ct_M_label = true := by decide +kernel
theorem kk_M_label : Chk GX 3000 444 ct_M_label := ⟨ke_M_label, fun pc as h => (show BT.AllP (fun pc as => ∀ a ∈ as, chkA GX 3000 444 ct_M_label pc a = true) ct_M_label.cut from trivial).at h⟩
theorem ke_M_statement : chkE GX 3000 447 ct_M_statement = true := by decide +kernel
theorem ka_M_statement_169_0 : chkA GX 3000 447 ct_M_statement 169 ca_M_statement_169_0 = true := by decide +kernel
theorem kk_M_statement : Chk GX 3000 447 ct_M_statement := ⟨ke_M_statement, fun pc as h => (show BT.AllP (fun pc as => ∀ a ∈ as, chkA GX 3000 447 ct_M_statement pc a = true) ct_M_statement.cut from ⟨⟨List.forall_mem_cons.mpr ⟨ka_M_statement_169_0, fun a ha => by cases ha⟩, trivial⟩, trivial⟩).at h⟩
theorem ke_M_erase : chkE GX 3000 448 ct_M_erase = true := by decide +kernel
theorem kk_M_erase : Chk GX 3000 448 ct_M_erase := ⟨ke_M_erase, fun pc as h => (show BT.AllP (fun pc as => ∀ a ∈ as, chkA GX 3000 448 ct_M_erase pc a = true) ct_M_erase.cut from trivial).at h⟩
theorem ke_M_tight : chkE GX 3000 449 ct_M_tight = true := by decide +kernel
theorem ka_M_tight_6_0 : chkA GX 3000 449 ct_M_tight 6 ca_M_tight_6_0 = true := by decide +kernel
theorem ka_M_tight_20_0 : chkA GX 3000 449 ct_M_tight 20 ca_M_tight_20_0 = true := by decide +kernel
theorem kk_M_tight : Chk GX 3000 449 ct_M_tight := ⟨ke_M_tight, fun pc as h => (show BT.AllP (fun pc as => ∀ a ∈ as, chkA GX 3000 449 ct_M_tight pc a = true) ct_M_tight.cut from ⟨⟨List.forall_mem_cons.mpr ⟨ka_M_tight_6_0, fun a ha => by cases ha⟩, trivial⟩, ⟨List.forall_mem_cons.mpr ⟨ka_M_tight_20_0, fun a ha => by cases ha⟩, trivial⟩, trivial⟩).at h⟩
theorem ke_M_lowered : chkE GX 3000 450 ct_M_lowered = true := by decide +kernel
theorem ka_M_lowered_4_0 : chkA GX 3000 450 ct_M_lowered 4 ca_M_lowered_4_0 = true := by decide +kernel
theorem kk_M_lowered : Chk GX 3000 450 ct_M_lowered := ⟨ke_M_lowered, fun pc as h => (show BT.AllP (fun pc as => ∀ a ∈ as, chkA GX 3000 450 ct_M_lowered pc a = true) ct_M_lowered.cut from ⟨⟨List.forall_mem_cons.mpr ⟨ka_M_lowered_4_0, fun a ha => by cases ha⟩, trivial⟩, trivial⟩).at h⟩
theorem ke_M_given : chkE GX 3000 451 ct_M_given = true := by decide +kernel
theorem kk_M_given : Chk GX 3000 451 ct_M_given := ⟨ke_M_given, fun pc as h => (show BT.AllP (fun pc as => ∀ a ∈ as, chkA GX 3000 451 ct_M_given pc a = true) ct_M_given.cut from trivial).at h⟩
theorem ke_M_flow : chkE GX 3000 453 ct_M_flow = true := by decide +kernel
theorem ka_M_flow_16_0 : chkA GX 3000 453 ct_M_flow 16 ca_M_flow_16_0 = true := by decide +kernel
theorem ka_M_flow_42_0 : chkA GX 3000 453 ct_M_flow 42 ca_M_flow_42_0 = true := by decide +kernel
