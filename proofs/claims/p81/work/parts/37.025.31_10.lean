theorem ka_Ga_throwOut_61_1L9 : chkA GXL9 3000 267 ct_Ga_throwOutL9 61 ca_Ga_throwOut_61_1L9 = true := by decide +kernel
theorem ka_Ga_throwOut_61_2L9 : chkA GXL9 3000 267 ct_Ga_throwOutL9 61 ca_Ga_throwOut_61_2L9 = true := by decide +kernel
theorem kk_Ga_throwOutL9 : Chk GXL9 3000 267 ct_Ga_throwOutL9 := ⟨ke_Ga_throwOutL9, fun pc as h => (show BT.AllP (fun pc as => ∀ a ∈ as, chkA GXL9 3000 267 ct_Ga_throwOutL9 pc a = true) ct_Ga_throwOutL9.cut from ⟨⟨List.forall_mem_cons.mpr ⟨ka_Ga_throwOut_61_0L9, List.forall_mem_cons.mpr ⟨ka_Ga_throwOut_61_1L9, List.forall_mem_cons.mpr ⟨ka_Ga_throwOut_61_2L9, fun a ha => by cases ha⟩⟩⟩, trivial⟩, trivial⟩).at h⟩
theorem ke_Ga_goOnL9 : chkE GXL9 3000 269 ct_Ga_goOnL9 = true := by decide +kernel
theorem kk_Ga_goOnL9 : Chk GXL9 3000 269 ct_Ga_goOnL9 := ⟨ke_Ga_goOnL9, fun pc as h => (show BT.AllP (fun pc as => ∀ a ∈ as, chkA GXL9 3000 269 ct_Ga_goOnL9 pc a = true) ct_Ga_goOnL9.cut from trivial).at h⟩
theorem ke_Ga_runL9 : chkE GXL9 3000 270 ct_Ga_runL9 = true := by decide +kernel
theorem ka_Ga_run_2_0L9 : chkA GXL9 3000 270 ct_Ga_runL9 2 ca_Ga_run_2_0L9 = true := by decide +kernel
theorem ka_Ga_run_57_0L9 : chkA GXL9 3000 270 ct_Ga_runL9 57 ca_Ga_run_57_0L9 = true := by decide +kernel
theorem kk_Ga_runL9 : Chk GXL9 3000 270 ct_Ga_runL9 := ⟨ke_Ga_runL9, fun pc as h => (show BT.AllP (fun pc as => ∀ a ∈ as, chkA GXL9 3000 270 ct_Ga_runL9 pc a = true) ct_Ga_runL9.cut from ⟨⟨List.forall_mem_cons.mpr ⟨ka_Ga_run_2_0L9, fun a ha => by cases ha⟩, trivial⟩, ⟨List.forall_mem_cons.mpr ⟨ka_Ga_run_57_0L9, fun a ha => by cases ha⟩, trivial⟩, trivial⟩).at h⟩
theorem ke_H_enterL9 : chkE GXL9 3000 271 ct_H_enterL9 = true := by decide +kernel
theorem kk_H_enterL9 : Chk GXL9 3000 271 ct_H_enterL9 := ⟨ke_H_enterL9, fun pc as h => (show BT.AllP (fun pc as => ∀ a ∈ as, chkA GXL9 3000 271 ct_H_enterL9 pc a = true) ct_H_enterL9.cut from trivial).at h⟩
theorem ke_H_enteredL9 : chkE GXL9 3000 272 ct_H_entered = true := by decide +kernel
theorem kk_H_enteredL9 : Chk GXL9 3000 272 ct_H_entered := ⟨ke_H_enteredL9, fun pc as h => (show BT.AllP (fun pc as => ∀ a ∈ as, chkA GXL9 3000 272 ct_H_entered pc a = true) ct_H_entered.cut from trivial).at h⟩
theorem ke_H_tapeNumber : chkE GXL9 3000 273 ct_H_tapeNumberL9 = true := by decide +kernel
theorem ka_H_tapeNumber_5_0 : chkA GXL9 3000 273 ct_H_tapeNumberL9 5 ca_H_tapeNumber_5_0L9 = true := by decide +kernel
theorem kk_H_tapeNumber : Chk GXL9 3000 273 ct_H_tapeNumberL9 := ⟨ke_H_tapeNumber, fun pc as h => (show BT.AllP (fun pc as => ∀ a ∈ as, chkA GXL9 3000 273 ct_H_tapeNumberL9 pc a = true) ct_H_tapeNumberL9.cut from ⟨⟨List.forall_mem_cons.mpr ⟨ka_H_tapeNumber_5_0, fun a ha => by cases ha⟩, trivial⟩, trivial⟩).at h⟩
theorem ke_H_half : chkE GXL9 3000 274 ct_H_halfL9 = true := by decide +kernel
theorem ka_H_half_56_0 : chkA GXL9 3000 274 ct_H_halfL9 56 ca_H_half_56_0 = true := by decide +kernel
theorem kk_H_half : Chk GXL9 3000 274 ct_H_halfL9 := ⟨ke_H_half, fun pc as h => (show BT.AllP (fun pc as => ∀ a ∈ as, chkA GXL9 3000 274 ct_H_halfL9 pc a = true) ct_H_halfL9.cut from ⟨⟨List.forall_mem_cons.mpr ⟨ka_H_half_56_0, fun a ha => by cases ha⟩, trivial⟩, trivial⟩).at h⟩
theorem ke_H_areHalves : chkE GXL9 3000 275 ct_H_areHalvesL9 = true := by decide +kernel
theorem ka_H_areHalves_2_0 : chkA GXL9 3000 275 ct_H_areHalvesL9 2 ca_H_areHalves_2_0L9 = true := by decide +kernel
theorem ka_H_areHalves_49_0 : chkA GXL9 3000 275 ct_H_areHalvesL9 49 ca_H_areHalves_49_0L9 = true := by decide +kernel
theorem kk_H_areHalves : Chk GXL9 3000 275 ct_H_areHalvesL9 := ⟨ke_H_areHalves, fun pc as h => (show BT.AllP (fun pc as => ∀ a ∈ as, chkA GXL9 3000 275 ct_H_areHalvesL9 pc a = true) ct_H_areHalvesL9.cut from ⟨⟨List.forall_mem_cons.mpr ⟨ka_H_areHalves_2_0, fun a ha => by cases ha⟩, trivial⟩, ⟨List.forall_mem_cons.mpr ⟨ka_H_areHalves_49_0, fun a ha => by cases ha⟩, trivial⟩, trivial⟩).at h⟩
theorem ke_H_inverse : chkE GXL9 3000 276 ct_H_inverseL9 = true := by decide +kernel
theorem ka_H_inverse_13_0 : chkA GXL9 3000 276 ct_H_inverseL9 13 ca_H_inverse_13_0L9 = true := by decide +kernel
theorem kk_H_inverse : Chk GXL9 3000 276 ct_H_inverseL9 := ⟨ke_H_inverse, fun pc as h => (show BT.AllP (fun pc as => ∀ a ∈ as, chkA GXL9 3000 276 ct_H_inverseL9 pc a = true) ct_H_inverseL9.cut from ⟨⟨List.forall_mem_cons.mpr ⟨ka_H_inverse_13_0, fun a ha => by cases ha⟩, trivial⟩, trivial⟩).at h⟩
theorem ke_H_weightOf : chkE GXL9 3000 277 ct_H_weightOfL9 = true := by decide +kernel
theorem ka_H_weightOf_15_0 : chkA GXL9 3000 277 ct_H_weightOfL9 15 ca_H_weightOf_15_0L9 = true := by decide +kernel
theorem kk_H_weightOf : Chk GXL9 3000 277 ct_H_weightOfL9 := ⟨ke_H_weightOf, fun pc as h => (show BT.AllP (fun pc as => ∀ a ∈ as, chkA GXL9 3000 277 ct_H_weightOfL9 pc a = true) ct_H_weightOfL9.cut from ⟨⟨List.forall_mem_cons.mpr ⟨ka_H_weightOf_15_0, fun a ha => by cases ha⟩, trivial⟩, trivial⟩).at h⟩
theorem ke_H_joined : chkE GXL9 3000 278 ct_H_joinedL9 = true := by decide +kernel
theorem ka_H_joined_40_0 : chkA GXL9 3000 278 ct_H_joinedL9 40 ca_H_joined_40_0 = true := by decide +kernel
theorem kk_H_joined : Chk GXL9 3000 278 ct_H_joinedL9 := ⟨ke_H_joined, fun pc as h => (show BT.AllP (fun pc as => ∀ a ∈ as, chkA GXL9 3000 278 ct_H_joinedL9 pc a = true) ct_H_joinedL9.cut from ⟨⟨List.forall_mem_cons.mpr ⟨ka_H_joined_40_0, fun a ha => by cases ha⟩, trivial⟩, trivial⟩).at h⟩
theorem ke_H_loggedL9 : chkE GXL9 3000 279 ct_H_loggedL9 = true := by decide +kernel
theorem kk_H_loggedL9 : Chk GXL9 3000 279 ct_H_loggedL9 := ⟨ke_H_loggedL9, fun pc as h => (show BT.AllP (fun pc as => ∀ a ∈ as, chkA GXL9 3000 279 ct_H_loggedL9 pc a = true) ct_H_loggedL9.cut from trivial).at h⟩
theorem ke_H_forgeL9 : chkE GXL9 3000 280 ct_H_forgeL9 = true := by decide +kernel
theorem kk_H_forgeL9 : Chk GXL9 3000 280 ct_H_forgeL9 := ⟨ke_H_forgeL9, fun pc as h => (show BT.AllP (fun pc as => ∀ a ∈ as, chkA GXL9 3000 280 ct_H_forgeL9 pc a = true) ct_H_forgeL9.cut from trivial).at h⟩
theorem ke_H_wrongL9 : chkE GXL9 3000 281 ct_H_wrongL9 = true := by decide +kernel
theorem ka_H_wrong_2_0L9 : chkA GXL9 3000 281 ct_H_wrongL9 2 ca_H_wrong_2_0L9 = true := by decide +kernel
theorem kk_H_wrongL9 : Chk GXL9 3000 281 ct_H_wrongL9 := ⟨ke_H_wrongL9, fun pc as h => (show BT.AllP (fun pc as => ∀ a ∈ as, chkA GXL9 3000 281 ct_H_wrongL9 pc a = true) ct_H_wrongL9.cut from ⟨⟨List.forall_mem_cons.mpr ⟨ka_H_wrong_2_0L9, fun a ha => by cases ha⟩, trivial⟩, trivial⟩).at h⟩
theorem ke_H_sealedL9 : chkE GXL9 3000 282 ct_H_sealedL9 = true := by decide +kernel
theorem ka_H_sealed_19_0L9 : chkA GXL9 3000 282 ct_H_sealedL9 19 ca_H_sealed_19_0L9 = true := by decide +kernel
theorem kk_H_sealedL9 : Chk GXL9 3000 282 ct_H_sealedL9 := ⟨ke_H_sealedL9, fun pc as h => (show BT.AllP (fun pc as => ∀ a ∈ as, chkA GXL9 3000 282 ct_H_sealedL9 pc a = true) ct_H_sealedL9.cut from ⟨⟨List.forall_mem_cons.mpr ⟨ka_H_sealed_19_0L9, fun a ha => by cases ha⟩, trivial⟩, trivial⟩).at h⟩
theorem ke_H_couldL9 : chkE GXL9 3000 283 ct_H_couldL9 = true := by decide +kernel
theorem kk_H_couldL9 : Chk GXL9 3000 283 ct_H_couldL9 := ⟨ke_H_couldL9, fun pc as h => (show BT.AllP (fun pc as => ∀ a ∈ as, chkA GXL9 3000 283 ct_H_couldL9 pc a = true) ct_H_couldL9.cut from trivial).at h⟩
theorem ke_M_lengthL9 : chkE GXL9 3000 291 ct_M_length = true := by decide +kernel
theorem ka_M_length_4_0L9 : chkA GXL9 3000 291 ct_M_length 4 ca_M_length_4_0 = true := by decide +kernel
theorem ka_M_length_4_1L9 : chkA GXL9 3000 291 ct_M_length 4 ca_M_length_4_1 = true := by decide +kernel
theorem ka_M_length_4_2L9 : chkA GXL9 3000 291 ct_M_length 4 ca_M_length_4_2 = true := by decide +kernel
theorem ka_M_length_4_3L9 : chkA GXL9 3000 291 ct_M_length 4 ca_M_length_4_3 = true := by decide +kernel
theorem ka_M_length_4_4L9 : chkA GXL9 3000 291 ct_M_length 4 ca_M_length_4_4 = true := by decide +kernel
theorem ka_M_length_4_5L9 : chkA GXL9 3000 291 ct_M_length 4 ca_M_length_4_5 = true := by decide +kernel
theorem ka_M_length_4_6L9 : chkA GXL9 3000 291 ct_M_length 4 ca_M_length_4_6 = true := by decide +kernel
theorem ka_M_length_4_7L9 : chkA GXL9 3000 291 ct_M_length 4 ca_M_length_4_7 = true := by decide +kernel
theorem ka_M_length_4_8L9 : chkA GXL9 3000 291 ct_M_length 4 ca_M_length_4_8 = true := by decide +kernel
theorem ka_M_length_4_9L9 : chkA GXL9 3000 291 ct_M_length 4 ca_M_length_4_9 = true := by decide +kernel
theorem ka_M_length_4_10L9 : chkA GXL9 3000 291 ct_M_length 4 ca_M_length_4_10 = true := by decide +kernel
theorem ka_M_length_4_11L9 : chkA GXL9 3000 291 ct_M_length 4 ca_M_length_4_11 = true := by decide +kernel
theorem ka_M_length_4_12L9 : chkA GXL9 3000 291 ct_M_length 4 ca_M_length_4_12 = true := by decide +kernel
theorem ka_M_length_4_13L9 : chkA GXL9 3000 291 ct_M_length 4 ca_M_length_4_13 = true := by decide +kernel
theorem ka_M_length_4_14L9 : chkA GXL9 3000 291 ct_M_length 4 ca_M_length_4_14 = true := by decide +kernel
theorem ka_M_length_4_15L9 : chkA GXL9 3000 291 ct_M_length 4 ca_M_length_4_15 = true := by decide +kernel
theorem ka_M_length_4_16L9 : chkA GXL9 3000 291 ct_M_length 4 ca_M_length_4_16 = true := by decide +kernel
theorem ka_M_length_4_17L9 : chkA GXL9 3000 291 ct_M_length 4 ca_M_length_4_17 = true := by decide +kernel
theorem ka_M_length_4_18L9 : chkA GXL9 3000 291 ct_M_length 4 ca_M_length_4_18 = true := by decide +kernel
theorem ka_M_length_4_19L9 : chkA GXL9 3000 291 ct_M_length 4 ca_M_length_4_19 = true := by decide +kernel
theorem ka_M_length_4_20L9 : chkA GXL9 3000 291 ct_M_length 4 ca_M_length_4_20 = true := by decide +kernel
theorem ka_M_length_4_21L9 : chkA GXL9 3000 291 ct_M_length 4 ca_M_length_4_21 = true := by decide +kernel
theorem ka_M_length_4_22L9 : chkA GXL9 3000 291 ct_M_length 4 ca_M_length_4_22 = true := by decide +kernel
theorem ka_M_length_4_23L9 : chkA GXL9 3000 291 ct_M_length 4 ca_M_length_4_23 = true := by decide +kernel
theorem ka_M_length_4_24L9 : chkA GXL9 3000 291 ct_M_length 4 ca_M_length_4_24 = true := by decide +kernel
theorem ka_M_length_4_25L9 : chkA GXL9 3000 291 ct_M_length 4 ca_M_length_4_25 = true := by decide +kernel
theorem ka_M_length_4_26L9 : chkA GXL9 3000 291 ct_M_length 4 ca_M_length_4_26 = true := by decide +kernel
theorem ka_M_length_4_27L9 : chkA GXL9 3000 291 ct_M_length 4 ca_M_length_4_27 = true := by decide +kernel
theorem ka_M_length_4_28L9 : chkA GXL9 3000 291 ct_M_length 4 ca_M_length_4_28 = true := by decide +kernel
theorem ka_M_length_4_29L9 : chkA GXL9 3000 291 ct_M_length 4 ca_M_length_4_29 = true := by decide +kernel
theorem ka_M_length_4_30L9 : chkA GXL9 3000 291 ct_M_length 4 ca_M_length_4_30 = true := by decide +kernel
theorem ka_M_length_4_31L9 : chkA GXL9 3000 291 ct_M_length 4 ca_M_length_4_31 = true := by decide +kernel
theorem ka_M_length_4_32L9 : chkA GXL9 3000 291 ct_M_length 4 ca_M_length_4_32 = true := by decide +kernel
theorem ka_M_length_4_33L9 : chkA GXL9 3000 291 ct_M_length 4 ca_M_length_4_33 = true := by decide +kernel
theorem ka_M_length_4_34L9 : chkA GXL9 3000 291 ct_M_length 4 ca_M_length_4_34 = true := by decide +kernel
theorem ka_M_length_4_35L9 : chkA GXL9 3000 291 ct_M_length 4 ca_M_length_4_35 = true := by decide +kernel
theorem ka_M_length_4_36L9 : chkA GXL9 3000 291 ct_M_length 4 ca_M_length_4_36 = true := by decide +kernel
theorem ka_M_length_4_37L9 : chkA GXL9 3000 291 ct_M_length 4 ca_M_length_4_37 = true := by decide +kernel
theorem ka_M_length_4_38L9 : chkA GXL9 3000 291 ct_M_length 4 ca_M_length_4_38 = true := by decide +kernel
theorem ka_M_length_4_39L9 : chkA GXL9 3000 291 ct_M_length 4 ca_M_length_4_39 = true := by decide +kernel
theorem ka_M_length_4_40L9 : chkA GXL9 3000 291 ct_M_length 4 ca_M_length_4_40 = true := by decide +kernel
theorem ka_M_length_4_41L9 : chkA GXL9 3000 291 ct_M_length 4 ca_M_length_4_41 = true := by decide +kernel
theorem ka_M_length_4_42L9 : chkA GXL9 3000 291 ct_M_length 4 ca_M_length_4_42 = true := by decide +kernel
theorem ka_M_length_4_43L9 : chkA GXL9 3000 291 ct_M_length 4 ca_M_length_4_43 = true := by decide +kernel
theorem ka_M_length_4_44L9 : chkA GXL9 3000 291 ct_M_length 4 ca_M_length_4_44 = true := by decide +kernel
theorem ka_M_length_4_45L9 : chkA GXL9 3000 291 ct_M_length 4 ca_M_length_4_45 = true := by decide +kernel
theorem ka_M_length_4_46L9 : chkA GXL9 3000 291 ct_M_length 4 ca_M_length_4_46 = true := by decide +kernel
theorem ka_M_length_4_47L9 : chkA GXL9 3000 291 ct_M_length 4 ca_M_length_4_47 = true := by decide +kernel
theorem ka_M_length_4_48L9 : chkA GXL9 3000 291 ct_M_length 4 ca_M_length_4_48 = true := by decide +kernel
theorem ka_M_length_4_49L9 : chkA GXL9 3000 291 ct_M_length 4 ca_M_length_4_49 = true := by decide +kernel
theorem ka_M_length_4_50L9 : chkA GXL9 3000 291 ct_M_length 4 ca_M_length_4_50 = true := by decide +kernel
theorem ka_M_length_4_51L9 : chkA GXL9 3000 291 ct_M_length 4 ca_M_length_4_51 = true := by decide +kernel
theorem ka_M_length_4_52L9 : chkA GXL9 3000 291 ct_M_length 4 ca_M_length_4_52 = true := by decide +kernel
theorem ka_M_length_4_53L9 : chkA GXL9 3000 291 ct_M_length 4 ca_M_length_4_53 = true := by decide +kernel
theorem ka_M_length_4_54L9 : chkA GXL9 3000 291 ct_M_length 4 ca_M_length_4_54 = true := by decide +kernel
theorem ka_M_length_4_55L9 : chkA GXL9 3000 291 ct_M_length 4 ca_M_length_4_55 = true := by decide +kernel
theorem ka_M_length_4_56L9 : chkA GXL9 3000 291 ct_M_length 4 ca_M_length_4_56 = true := by decide +kernel
theorem ka_M_length_4_57L9 : chkA GXL9 3000 291 ct_M_length 4 ca_M_length_4_57 = true := by decide +kernel
theorem ka_M_length_4_58L9 : chkA GXL9 3000 291 ct_M_length 4 ca_M_length_4_58 = true := by decide +kernel
theorem ka_M_length_4_59L9 : chkA GXL9 3000 291 ct_M_length 4 ca_M_length_4_59 = true := by decide +kernel
theorem ka_M_length_4_60L9 : chkA GXL9 3000 291 ct_M_length 4 ca_M_length_4_60 = true := by decide +kernel
theorem ka_M_length_4_61L9 : chkA GXL9 3000 291 ct_M_length 4 ca_M_length_4_61 = true := by decide +kernel
theorem ka_M_length_4_62L9 : chkA GXL9 3000 291 ct_M_length 4 ca_M_length_4_62 = true := by decide +kernel
theorem ka_M_length_4_63L9 : chkA GXL9 3000 291 ct_M_length 4 ca_M_length_4_63 = true := by decide +kernel
theorem ka_M_length_4_64L9 : chkA GXL9 3000 291 ct_M_length 4 ca_M_length_4_64 = true := by decide +kernel
theorem ka_M_length_4_65L9 : chkA GXL9 3000 291 ct_M_length 4 ca_M_length_4_65 = true := by decide +kernel
theorem kk_M_lengthL9 : Chk GXL9 3000 291 ct_M_length := ⟨ke_M_lengthL9, fun pc as h => (show BT.AllP (fun pc as => ∀ a ∈ as, chkA GXL9 3000 291 ct_M_length pc a = true) ct_M_length.cut from ⟨⟨List.forall_mem_cons.mpr ⟨ka_M_length_4_0L9, List.forall_mem_cons.mpr ⟨ka_M_length_4_1L9, List.forall_mem_cons.mpr ⟨ka_M_length_4_2L9, List.forall_mem_cons.mpr ⟨ka_M_length_4_3L9, List.forall_mem_cons.mpr ⟨ka_M_length_4_4L9, List.forall_mem_cons.mpr ⟨ka_M_length_4_5L9, List.forall_mem_cons.mpr ⟨ka_M_length_4_6L9, List.forall_mem_cons.mpr ⟨ka_M_length_4_7L9, List.forall_mem_cons.mpr ⟨ka_M_length_4_8L9, List.forall_mem_cons.mpr ⟨ka_M_length_4_9L9, List.forall_mem_cons.mpr ⟨ka_M_length_4_10L9, List.forall_mem_cons.mpr ⟨ka_M_length_4_11L9, List.forall_mem_cons.mpr ⟨ka_M_length_4_12L9, List.forall_mem_cons.mpr ⟨ka_M_length_4_13L9, List.forall_mem_cons.mpr ⟨ka_M_length_4_14L9, List.forall_mem_cons.mpr ⟨ka_M_length_4_15L9, List.forall_mem_cons.mpr ⟨ka_M_length_4_16L9, List.forall_mem_cons.mpr ⟨ka_M_length_4_17L9, List.forall_mem_cons.mpr ⟨ka_M_length_4_18L9, List.forall_mem_cons.mpr ⟨ka_M_length_4_19L9, List.forall_mem_cons.mpr ⟨ka_M_length_4_20L9, List.forall_mem_cons.mpr ⟨ka_M_length_4_21L9, List.forall_mem_cons.mpr ⟨ka_M_length_4_22L9, List.forall_mem_cons.mpr ⟨ka_M_length_4_23L9, List.forall_mem_cons.mpr ⟨ka_M_length_4_24L9, List.forall_mem_cons.mpr ⟨ka_M_length_4_25L9, List.forall_mem_cons.mpr ⟨ka_M_length_4_26L9, List.forall_mem_cons.mpr ⟨ka_M_length_4_27L9, List.forall_mem_cons.mpr ⟨ka_M_length_4_28L9, List.forall_mem_cons.mpr ⟨ka_M_length_4_29L9, List.forall_mem_cons.mpr ⟨ka_M_length_4_30L9, List.forall_mem_cons.mpr ⟨ka_M_length_4_31L9, List.forall_mem_cons.mpr ⟨ka_M_length_4_32L9, List.forall_mem_cons.mpr ⟨ka_M_length_4_33L9, List.forall_mem_cons.mpr ⟨ka_M_length_4_34L9, List.forall_mem_cons.mpr ⟨ka_M_length_4_35L9, List.forall_mem_cons.mpr ⟨ka_M_length_4_36L9, List.forall_mem_cons.mpr ⟨ka_M_length_4_37L9, List.forall_mem_cons.mpr ⟨ka_M_length_4_38L9, List.forall_mem_cons.mpr ⟨ka_M_length_4_39L9, List.forall_mem_cons.mpr ⟨ka_M_length_4_40L9, List.forall_mem_cons.mpr ⟨ka_M_length_4_41L9, List.forall_mem_cons.mpr ⟨ka_M_length_4_42L9, List.forall_mem_cons.mpr ⟨ka_M_length_4_43L9, List.forall_mem_cons.mpr ⟨ka_M_length_4_44L9, List.forall_mem_cons.mpr ⟨ka_M_length_4_45L9, List.forall_mem_cons.mpr ⟨ka_M_length_4_46L9, List.forall_mem_cons.mpr ⟨ka_M_length_4_47L9, List.forall_mem_cons.mpr ⟨ka_M_length_4_48L9, List.forall_mem_cons.mpr ⟨ka_M_length_4_49L9, List.forall_mem_cons.mpr ⟨ka_M_length_4_50L9, List.forall_mem_cons.mpr ⟨ka_M_length_4_51L9, List.forall_mem_cons.mpr ⟨ka_M_length_4_52L9, List.forall_mem_cons.mpr ⟨ka_M_length_4_53L9, List.forall_mem_cons.mpr ⟨ka_M_length_4_54L9, List.forall_mem_cons.mpr ⟨ka_M_length_4_55L9, List.forall_mem_cons.mpr ⟨ka_M_length_4_56L9, List.forall_mem_cons.mpr ⟨ka_M_length_4_57L9, List.forall_mem_cons.mpr ⟨ka_M_length_4_58L9, List.forall_mem_cons.mpr ⟨ka_M_length_4_59L9, List.forall_mem_cons.mpr ⟨ka_M_length_4_60L9, List.forall_mem_cons.mpr ⟨ka_M_length_4_61L9, List.forall_mem_cons.mpr ⟨ka_M_length_4_62L9, List.forall_mem_cons.mpr ⟨ka_M_length_4_63L9, List.forall_mem_cons.mpr ⟨ka_M_length_4_64L9, List.forall_mem_cons.mpr ⟨ka_M_length_4_65L9, fun a ha => by cases ha⟩⟩⟩⟩⟩⟩⟩⟩⟩⟩⟩⟩⟩⟩⟩⟩⟩⟩⟩⟩⟩⟩⟩⟩⟩⟩⟩⟩⟩⟩⟩⟩⟩⟩⟩⟩⟩⟩⟩⟩⟩⟩⟩⟩⟩⟩⟩⟩⟩⟩⟩⟩⟩⟩⟩⟩⟩⟩⟩⟩⟩⟩⟩⟩⟩⟩, trivial⟩, trivial⟩).at h⟩
theorem ke_M_packL9 : chkE GXL9 3000 293 ct_M_packL9 = true := by decide +kernel
theorem ka_M_pack_18_0L9 : chkA GXL9 3000 293 ct_M_packL9 18 ca_M_pack_18_0L9 = true := by decide +kernel
theorem kk_M_packL9 : Chk GXL9 3000 293 ct_M_packL9 := ⟨ke_M_packL9, fun pc as h => (show BT.AllP (fun pc as => ∀ a ∈ as, chkA GXL9 3000 293 ct_M_packL9 pc a = true) ct_M_packL9.cut from ⟨⟨List.forall_mem_cons.mpr ⟨ka_M_pack_18_0L9, fun a ha => by cases ha⟩, trivial⟩, trivial⟩).at h⟩
theorem ke_M_fitL9 : chkE GXL9 3000 294 ct_M_fitL9 = true := by decide +kernel
theorem ka_M_fit_23_0L9 : chkA GXL9 3000 294 ct_M_fitL9 23 ca_M_fit_23_0L9 = true := by decide +kernel
