theorem ke_Ga_goOn : chkE GX 3000 269 ct_Ga_goOn = true := by decide +kernel
theorem kk_Ga_goOn : Chk GX 3000 269 ct_Ga_goOn := ⟨ke_Ga_goOn, fun pc as h => (show BT.AllP (fun pc as => ∀ a ∈ as, chkA GX 3000 269 ct_Ga_goOn pc a = true) ct_Ga_goOn.cut from trivial).at h⟩
theorem ke_Ga_run : chkE GX 3000 270 ct_Ga_run = true := by decide +kernel
theorem ka_Ga_run_2_0 : chkA GX 3000 270 ct_Ga_run 2 ca_Ga_run_2_0 = true := by decide +kernel
theorem ka_Ga_run_57_0 : chkA GX 3000 270 ct_Ga_run 57 ca_Ga_run_57_0 = true := by decide +kernel
theorem kk_Ga_run : Chk GX 3000 270 ct_Ga_run := ⟨ke_Ga_run, fun pc as h => (show BT.AllP (fun pc as => ∀ a ∈ as, chkA GX 3000 270 ct_Ga_run pc a = true) ct_Ga_run.cut from ⟨⟨List.forall_mem_cons.mpr ⟨ka_Ga_run_2_0, fun a ha => by cases ha⟩, trivial⟩, ⟨List.forall_mem_cons.mpr ⟨ka_Ga_run_57_0, fun a ha => by cases ha⟩, trivial⟩, trivial⟩).at h⟩
theorem ke_H_enter : chkE GX 3000 271 ct_H_enter = true := by decide +kernel
theorem kk_H_enter : Chk GX 3000 271 ct_H_enter := ⟨ke_H_enter, fun pc as h => (show BT.AllP (fun pc as => ∀ a ∈ as, chkA GX 3000 271 ct_H_enter pc a = true) ct_H_enter.cut from trivial).at h⟩
theorem ke_H_entered : chkE GX 3000 272 ct_H_entered = true := by decide +kernel
theorem kk_H_entered : Chk GX 3000 272 ct_H_entered := ⟨ke_H_entered, fun pc as h => (show BT.AllP (fun pc as => ∀ a ∈ as, chkA GX 3000 272 ct_H_entered pc a = true) ct_H_entered.cut from trivial).at h⟩
theorem ke_H_tapeNumber : chkE GX 3000 273 ct_H_tapeNumber = true := by decide +kernel
theorem ka_H_tapeNumber_5_0 : chkA GX 3000 273 ct_H_tapeNumber 5 ca_H_tapeNumber_5_0 = true := by decide +kernel
theorem kk_H_tapeNumber : Chk GX 3000 273 ct_H_tapeNumber := ⟨ke_H_tapeNumber, fun pc as h => (show BT.AllP (fun pc as => ∀ a ∈ as, chkA GX 3000 273 ct_H_tapeNumber pc a = true) ct_H_tapeNumber.cut from ⟨⟨List.forall_mem_cons.mpr ⟨ka_H_tapeNumber_5_0, fun a ha => by cases ha⟩, trivial⟩, trivial⟩).at h⟩
theorem ke_H_half : chkE GX 3000 274 ct_H_half = true := by decide +kernel
theorem ka_H_half_56_0 : chkA GX 3000 274 ct_H_half 56 ca_H_half_56_0 = true := by decide +kernel
theorem kk_H_half : Chk GX 3000 274 ct_H_half := ⟨ke_H_half, fun pc as h => (show BT.AllP (fun pc as => ∀ a ∈ as, chkA GX 3000 274 ct_H_half pc a = true) ct_H_half.cut from ⟨⟨List.forall_mem_cons.mpr ⟨ka_H_half_56_0, fun a ha => by cases ha⟩, trivial⟩, trivial⟩).at h⟩
theorem ke_H_areHalves : chkE GX 3000 275 ct_H_areHalves = true := by decide +kernel
theorem ka_H_areHalves_2_0 : chkA GX 3000 275 ct_H_areHalves 2 ca_H_areHalves_2_0 = true := by decide +kernel
theorem ka_H_areHalves_49_0 : chkA GX 3000 275 ct_H_areHalves 49 ca_H_areHalves_49_0 = true := by decide +kernel
theorem kk_H_areHalves : Chk GX 3000 275 ct_H_areHalves := ⟨ke_H_areHalves, fun pc as h => (show BT.AllP (fun pc as => ∀ a ∈ as, chkA GX 3000 275 ct_H_areHalves pc a = true) ct_H_areHalves.cut from ⟨⟨List.forall_mem_cons.mpr ⟨ka_H_areHalves_2_0, fun a ha => by cases ha⟩, trivial⟩, ⟨List.forall_mem_cons.mpr ⟨ka_H_areHalves_49_0, fun a ha => by cases ha⟩, trivial⟩, trivial⟩).at h⟩
theorem ke_H_inverse : chkE GX 3000 276 ct_H_inverse = true := by decide +kernel
theorem ka_H_inverse_13_0 : chkA GX 3000 276 ct_H_inverse 13 ca_H_inverse_13_0 = true := by decide +kernel
theorem kk_H_inverse : Chk GX 3000 276 ct_H_inverse := ⟨ke_H_inverse, fun pc as h => (show BT.AllP (fun pc as => ∀ a ∈ as, chkA GX 3000 276 ct_H_inverse pc a = true) ct_H_inverse.cut from ⟨⟨List.forall_mem_cons.mpr ⟨ka_H_inverse_13_0, fun a ha => by cases ha⟩, trivial⟩, trivial⟩).at h⟩
theorem ke_H_weightOf : chkE GX 3000 277 ct_H_weightOf = true := by decide +kernel
theorem ka_H_weightOf_15_0 : chkA GX 3000 277 ct_H_weightOf 15 ca_H_weightOf_15_0 = true := by decide +kernel
theorem kk_H_weightOf : Chk GX 3000 277 ct_H_weightOf := ⟨ke_H_weightOf, fun pc as h => (show BT.AllP (fun pc as => ∀ a ∈ as, chkA GX 3000 277 ct_H_weightOf pc a = true) ct_H_weightOf.cut from ⟨⟨List.forall_mem_cons.mpr ⟨ka_H_weightOf_15_0, fun a ha => by cases ha⟩, trivial⟩, trivial⟩).at h⟩
theorem ke_H_joined : chkE GX 3000 278 ct_H_joined = true := by decide +kernel
theorem ka_H_joined_40_0 : chkA GX 3000 278 ct_H_joined 40 ca_H_joined_40_0 = true := by decide +kernel
theorem kk_H_joined : Chk GX 3000 278 ct_H_joined := ⟨ke_H_joined, fun pc as h => (show BT.AllP (fun pc as => ∀ a ∈ as, chkA GX 3000 278 ct_H_joined pc a = true) ct_H_joined.cut from ⟨⟨List.forall_mem_cons.mpr ⟨ka_H_joined_40_0, fun a ha => by cases ha⟩, trivial⟩, trivial⟩).at h⟩
theorem ke_H_logged : chkE GX 3000 279 ct_H_logged = true := by decide +kernel
theorem kk_H_logged : Chk GX 3000 279 ct_H_logged := ⟨ke_H_logged, fun pc as h => (show BT.AllP (fun pc as => ∀ a ∈ as, chkA GX 3000 279 ct_H_logged pc a = true) ct_H_logged.cut from trivial).at h⟩
theorem ke_H_forge : chkE GX 3000 280 ct_H_forge = true := by decide +kernel
theorem kk_H_forge : Chk GX 3000 280 ct_H_forge := ⟨ke_H_forge, fun pc as h => (show BT.AllP (fun pc as => ∀ a ∈ as, chkA GX 3000 280 ct_H_forge pc a = true) ct_H_forge.cut from trivial).at h⟩
theorem ke_H_wrong : chkE GX 3000 281 ct_H_wrong = true := by decide +kernel
theorem ka_H_wrong_2_0 : chkA GX 3000 281 ct_H_wrong 2 ca_H_wrong_2_0 = true := by decide +kernel
theorem kk_H_wrong : Chk GX 3000 281 ct_H_wrong := ⟨ke_H_wrong, fun pc as h => (show BT.AllP (fun pc as => ∀ a ∈ as, chkA GX 3000 281 ct_H_wrong pc a = true) ct_H_wrong.cut from ⟨⟨List.forall_mem_cons.mpr ⟨ka_H_wrong_2_0, fun a ha => by cases ha⟩, trivial⟩, trivial⟩).at h⟩
theorem ke_H_sealed : chkE GX 3000 282 ct_H_sealed = true := by decide +kernel
theorem ka_H_sealed_19_0 : chkA GX 3000 282 ct_H_sealed 19 ca_H_sealed_19_0 = true := by decide +kernel
theorem kk_H_sealed : Chk GX 3000 282 ct_H_sealed := ⟨ke_H_sealed, fun pc as h => (show BT.AllP (fun pc as => ∀ a ∈ as, chkA GX 3000 282 ct_H_sealed pc a = true) ct_H_sealed.cut from ⟨⟨List.forall_mem_cons.mpr ⟨ka_H_sealed_19_0, fun a ha => by cases ha⟩, trivial⟩, trivial⟩).at h⟩
theorem ke_H_could : chkE GX 3000 283 ct_H_could = true := by decide +kernel
theorem kk_H_could : Chk GX 3000 283 ct_H_could := ⟨ke_H_could, fun pc as h => (show BT.AllP (fun pc as => ∀ a ∈ as, chkA GX 3000 283 ct_H_could pc a = true) ct_H_could.cut from trivial).at h⟩
theorem ke_M_length : chkE GX 3000 291 ct_M_length = true := by decide +kernel
theorem ka_M_length_4_0 : chkA GX 3000 291 ct_M_length 4 ca_M_length_4_0 = true := by decide +kernel
theorem ka_M_length_4_1 : chkA GX 3000 291 ct_M_length 4 ca_M_length_4_1 = true := by decide +kernel
theorem ka_M_length_4_2 : chkA GX 3000 291 ct_M_length 4 ca_M_length_4_2 = true := by decide +kernel
theorem ka_M_length_4_3 : chkA GX 3000 291 ct_M_length 4 ca_M_length_4_3 = true := by decide +kernel
theorem ka_M_length_4_4 : chkA GX 3000 291 ct_M_length 4 ca_M_length_4_4 = true := by decide +kernel
theorem ka_M_length_4_5 : chkA GX 3000 291 ct_M_length 4 ca_M_length_4_5 = true := by decide +kernel
theorem ka_M_length_4_6 : chkA GX 3000 291 ct_M_length 4 ca_M_length_4_6 = true := by decide +kernel
theorem ka_M_length_4_7 : chkA GX 3000 291 ct_M_length 4 ca_M_length_4_7 = true := by decide +kernel
theorem ka_M_length_4_8 : chkA GX 3000 291 ct_M_length 4 ca_M_length_4_8 = true := by decide +kernel
theorem ka_M_length_4_9 : chkA GX 3000 291 ct_M_length 4 ca_M_length_4_9 = true := by decide +kernel
theorem ka_M_length_4_10 : chkA GX 3000 291 ct_M_length 4 ca_M_length_4_10 = true := by decide +kernel
theorem ka_M_length_4_11 : chkA GX 3000 291 ct_M_length 4 ca_M_length_4_11 = true := by decide +kernel
theorem ka_M_length_4_12 : chkA GX 3000 291 ct_M_length 4 ca_M_length_4_12 = true := by decide +kernel
theorem ka_M_length_4_13 : chkA GX 3000 291 ct_M_length 4 ca_M_length_4_13 = true := by decide +kernel
theorem ka_M_length_4_14 : chkA GX 3000 291 ct_M_length 4 ca_M_length_4_14 = true := by decide +kernel
theorem ka_M_length_4_15 : chkA GX 3000 291 ct_M_length 4 ca_M_length_4_15 = true := by decide +kernel
theorem ka_M_length_4_16 : chkA GX 3000 291 ct_M_length 4 ca_M_length_4_16 = true := by decide +kernel
theorem ka_M_length_4_17 : chkA GX 3000 291 ct_M_length 4 ca_M_length_4_17 = true := by decide +kernel
theorem ka_M_length_4_18 : chkA GX 3000 291 ct_M_length 4 ca_M_length_4_18 = true := by decide +kernel
theorem ka_M_length_4_19 : chkA GX 3000 291 ct_M_length 4 ca_M_length_4_19 = true := by decide +kernel
theorem ka_M_length_4_20 : chkA GX 3000 291 ct_M_length 4 ca_M_length_4_20 = true := by decide +kernel
theorem ka_M_length_4_21 : chkA GX 3000 291 ct_M_length 4 ca_M_length_4_21 = true := by decide +kernel
theorem ka_M_length_4_22 : chkA GX 3000 291 ct_M_length 4 ca_M_length_4_22 = true := by decide +kernel
theorem ka_M_length_4_23 : chkA GX 3000 291 ct_M_length 4 ca_M_length_4_23 = true := by decide +kernel
theorem ka_M_length_4_24 : chkA GX 3000 291 ct_M_length 4 ca_M_length_4_24 = true := by decide +kernel
theorem ka_M_length_4_25 : chkA GX 3000 291 ct_M_length 4 ca_M_length_4_25 = true := by decide +kernel
theorem ka_M_length_4_26 : chkA GX 3000 291 ct_M_length 4 ca_M_length_4_26 = true := by decide +kernel
theorem ka_M_length_4_27 : chkA GX 3000 291 ct_M_length 4 ca_M_length_4_27 = true := by decide +kernel
theorem ka_M_length_4_28 : chkA GX 3000 291 ct_M_length 4 ca_M_length_4_28 = true := by decide +kernel
theorem ka_M_length_4_29 : chkA GX 3000 291 ct_M_length 4 ca_M_length_4_29 = true := by decide +kernel
theorem ka_M_length_4_30 : chkA GX 3000 291 ct_M_length 4 ca_M_length_4_30 = true := by decide +kernel
theorem ka_M_length_4_31 : chkA GX 3000 291 ct_M_length 4 ca_M_length_4_31 = true := by decide +kernel
theorem ka_M_length_4_32 : chkA GX 3000 291 ct_M_length 4 ca_M_length_4_32 = true := by decide +kernel
theorem ka_M_length_4_33 : chkA GX 3000 291 ct_M_length 4 ca_M_length_4_33 = true := by decide +kernel
theorem ka_M_length_4_34 : chkA GX 3000 291 ct_M_length 4 ca_M_length_4_34 = true := by decide +kernel
theorem ka_M_length_4_35 : chkA GX 3000 291 ct_M_length 4 ca_M_length_4_35 = true := by decide +kernel
theorem ka_M_length_4_36 : chkA GX 3000 291 ct_M_length 4 ca_M_length_4_36 = true := by decide +kernel
theorem ka_M_length_4_37 : chkA GX 3000 291 ct_M_length 4 ca_M_length_4_37 = true := by decide +kernel
theorem ka_M_length_4_38 : chkA GX 3000 291 ct_M_length 4 ca_M_length_4_38 = true := by decide +kernel
theorem ka_M_length_4_39 : chkA GX 3000 291 ct_M_length 4 ca_M_length_4_39 = true := by decide +kernel
theorem ka_M_length_4_40 : chkA GX 3000 291 ct_M_length 4 ca_M_length_4_40 = true := by decide +kernel
theorem ka_M_length_4_41 : chkA GX 3000 291 ct_M_length 4 ca_M_length_4_41 = true := by decide +kernel
theorem ka_M_length_4_42 : chkA GX 3000 291 ct_M_length 4 ca_M_length_4_42 = true := by decide +kernel
theorem ka_M_length_4_43 : chkA GX 3000 291 ct_M_length 4 ca_M_length_4_43 = true := by decide +kernel
theorem ka_M_length_4_44 : chkA GX 3000 291 ct_M_length 4 ca_M_length_4_44 = true := by decide +kernel
theorem ka_M_length_4_45 : chkA GX 3000 291 ct_M_length 4 ca_M_length_4_45 = true := by decide +kernel
theorem ka_M_length_4_46 : chkA GX 3000 291 ct_M_length 4 ca_M_length_4_46 = true := by decide +kernel
theorem ka_M_length_4_47 : chkA GX 3000 291 ct_M_length 4 ca_M_length_4_47 = true := by decide +kernel
theorem ka_M_length_4_48 : chkA GX 3000 291 ct_M_length 4 ca_M_length_4_48 = true := by decide +kernel
theorem ka_M_length_4_49 : chkA GX 3000 291 ct_M_length 4 ca_M_length_4_49 = true := by decide +kernel
theorem ka_M_length_4_50 : chkA GX 3000 291 ct_M_length 4 ca_M_length_4_50 = true := by decide +kernel
theorem ka_M_length_4_51 : chkA GX 3000 291 ct_M_length 4 ca_M_length_4_51 = true := by decide +kernel
theorem ka_M_length_4_52 : chkA GX 3000 291 ct_M_length 4 ca_M_length_4_52 = true := by decide +kernel
theorem ka_M_length_4_53 : chkA GX 3000 291 ct_M_length 4 ca_M_length_4_53 = true := by decide +kernel
theorem ka_M_length_4_54 : chkA GX 3000 291 ct_M_length 4 ca_M_length_4_54 = true := by decide +kernel
theorem ka_M_length_4_55 : chkA GX 3000 291 ct_M_length 4 ca_M_length_4_55 = true := by decide +kernel
theorem ka_M_length_4_56 : chkA GX 3000 291 ct_M_length 4 ca_M_length_4_56 = true := by decide +kernel
theorem ka_M_length_4_57 : chkA GX 3000 291 ct_M_length 4 ca_M_length_4_57 = true := by decide +kernel
theorem ka_M_length_4_58 : chkA GX 3000 291 ct_M_length 4 ca_M_length_4_58 = true := by decide +kernel
theorem ka_M_length_4_59 : chkA GX 3000 291 ct_M_length 4 ca_M_length_4_59 = true := by decide +kernel
theorem ka_M_length_4_60 : chkA GX 3000 291 ct_M_length 4 ca_M_length_4_60 = true := by decide +kernel
theorem ka_M_length_4_61 : chkA GX 3000 291 ct_M_length 4 ca_M_length_4_61 = true := by decide +kernel
theorem ka_M_length_4_62 : chkA GX 3000 291 ct_M_length 4 ca_M_length_4_62 = true := by decide +kernel
theorem ka_M_length_4_63 : chkA GX 3000 291 ct_M_length 4 ca_M_length_4_63 = true := by decide +kernel
theorem ka_M_length_4_64 : chkA GX 3000 291 ct_M_length 4 ca_M_length_4_64 = true := by decide +kernel
theorem ka_M_length_4_65 : chkA GX 3000 291 ct_M_length 4 ca_M_length_4_65 = true := by decide +kernel
theorem kk_M_length : Chk GX 3000 291 ct_M_length := ⟨ke_M_length, fun pc as h => (show BT.AllP (fun pc as => ∀ a ∈ as, chkA GX 3000 291 ct_M_length pc a = true) ct_M_length.cut from ⟨⟨List.forall_mem_cons.mpr ⟨ka_M_length_4_0, List.forall_mem_cons.mpr ⟨ka_M_length_4_1, List.forall_mem_cons.mpr ⟨ka_M_length_4_2, List.forall_mem_cons.mpr ⟨ka_M_length_4_3, List.forall_mem_cons.mpr ⟨ka_M_length_4_4, List.forall_mem_cons.mpr ⟨ka_M_length_4_5, List.forall_mem_cons.mpr ⟨ka_M_length_4_6, List.forall_mem_cons.mpr ⟨ka_M_length_4_7, List.forall_mem_cons.mpr ⟨ka_M_length_4_8, List.forall_mem_cons.mpr ⟨ka_M_length_4_9, List.forall_mem_cons.mpr ⟨ka_M_length_4_10, List.forall_mem_cons.mpr ⟨ka_M_length_4_11, List.forall_mem_cons.mpr ⟨ka_M_length_4_12, List.forall_mem_cons.mpr ⟨ka_M_length_4_13, List.forall_mem_cons.mpr ⟨ka_M_length_4_14, List.forall_mem_cons.mpr ⟨ka_M_length_4_15, List.forall_mem_cons.mpr ⟨ka_M_length_4_16, List.forall_mem_cons.mpr ⟨ka_M_length_4_17, List.forall_mem_cons.mpr ⟨ka_M_length_4_18, List.forall_mem_cons.mpr ⟨ka_M_length_4_19, List.forall_mem_cons.mpr ⟨ka_M_length_4_20, List.forall_mem_cons.mpr ⟨ka_M_length_4_21, List.forall_mem_cons.mpr ⟨ka_M_length_4_22, List.forall_mem_cons.mpr ⟨ka_M_length_4_23, List.forall_mem_cons.mpr ⟨ka_M_length_4_24, List.forall_mem_cons.mpr ⟨ka_M_length_4_25, List.forall_mem_cons.mpr ⟨ka_M_length_4_26, List.forall_mem_cons.mpr ⟨ka_M_length_4_27, List.forall_mem_cons.mpr ⟨ka_M_length_4_28, List.forall_mem_cons.mpr ⟨ka_M_length_4_29, List.forall_mem_cons.mpr ⟨ka_M_length_4_30, List.forall_mem_cons.mpr ⟨ka_M_length_4_31, List.forall_mem_cons.mpr ⟨ka_M_length_4_32, List.forall_mem_cons.mpr ⟨ka_M_length_4_33, List.forall_mem_cons.mpr ⟨ka_M_length_4_34, List.forall_mem_cons.mpr ⟨ka_M_length_4_35, List.forall_mem_cons.mpr ⟨ka_M_length_4_36, List.forall_mem_cons.mpr ⟨ka_M_length_4_37, List.forall_mem_cons.mpr ⟨ka_M_length_4_38, List.forall_mem_cons.mpr ⟨ka_M_length_4_39, List.forall_mem_cons.mpr ⟨ka_M_length_4_40, List.forall_mem_cons.mpr ⟨ka_M_length_4_41, List.forall_mem_cons.mpr ⟨ka_M_length_4_42, List.forall_mem_cons.mpr ⟨ka_M_length_4_43, List.forall_mem_cons.mpr ⟨ka_M_length_4_44, List.forall_mem_cons.mpr ⟨ka_M_length_4_45, List.forall_mem_cons.mpr ⟨ka_M_length_4_46, List.forall_mem_cons.mpr ⟨ka_M_length_4_47, List.forall_mem_cons.mpr ⟨ka_M_length_4_48, List.forall_mem_cons.mpr ⟨ka_M_length_4_49, List.forall_mem_cons.mpr ⟨ka_M_length_4_50, List.forall_mem_cons.mpr ⟨ka_M_length_4_51, List.forall_mem_cons.mpr ⟨ka_M_length_4_52, List.forall_mem_cons.mpr ⟨ka_M_length_4_53, List.forall_mem_cons.mpr ⟨ka_M_length_4_54, List.forall_mem_cons.mpr ⟨ka_M_length_4_55, List.forall_mem_cons.mpr ⟨ka_M_length_4_56, List.forall_mem_cons.mpr ⟨ka_M_length_4_57, List.forall_mem_cons.mpr ⟨ka_M_length_4_58, List.forall_mem_cons.mpr ⟨ka_M_length_4_59, List.forall_mem_cons.mpr ⟨ka_M_length_4_60, List.forall_mem_cons.mpr ⟨ka_M_length_4_61, List.forall_mem_cons.mpr ⟨ka_M_length_4_62, List.forall_mem_cons.mpr ⟨ka_M_length_4_63, List.forall_mem_cons.mpr ⟨ka_M_length_4_64, List.forall_mem_cons.mpr ⟨ka_M_length_4_65, fun a ha => by cases ha⟩⟩⟩⟩⟩⟩⟩⟩⟩⟩⟩⟩⟩⟩⟩⟩⟩⟩⟩⟩⟩⟩⟩⟩⟩⟩⟩⟩⟩⟩⟩⟩⟩⟩⟩⟩⟩⟩⟩⟩⟩⟩⟩⟩⟩⟩⟩⟩⟩⟩⟩⟩⟩⟩⟩⟩⟩⟩⟩⟩⟩⟩⟩⟩⟩⟩, trivial⟩, trivial⟩).at h⟩
theorem ke_M_pack : chkE GX 3000 293 ct_M_pack = true := by decide +kernel
theorem ka_M_pack_18_0 : chkA GX 3000 293 ct_M_pack 18 ca_M_pack_18_0 = true := by decide +kernel
theorem kk_M_pack : Chk GX 3000 293 ct_M_pack := ⟨ke_M_pack, fun pc as h => (show BT.AllP (fun pc as => ∀ a ∈ as, chkA GX 3000 293 ct_M_pack pc a = true) ct_M_pack.cut from ⟨⟨List.forall_mem_cons.mpr ⟨ka_M_pack_18_0, fun a ha => by cases ha⟩, trivial⟩, trivial⟩).at h⟩
theorem ke_M_fit : chkE GX 3000 294 ct_M_fit = true := by decide +kernel
theorem ka_M_fit_23_0 : chkA GX 3000 294 ct_M_fit 23 ca_M_fit_23_0 = true := by decide +kernel
