theorem cH_person {E : xV} : CtOk E Yf GX JJ 7 ctH_person := lone_ok rfl ⟨by decide +kernel, fun pc as h => (by cases h)⟩
theorem cM_person_0 {E : xV} : CtOk E Yf GX JJ 312 ctM_person_0 := lone_ok rfl ⟨by decide +kernel, fun pc as h => (by cases h)⟩
theorem cM_person_1 {E : xV} : CtOk E Yf GX JJ 312 ctM_person_1 := lone_ok rfl ⟨by decide +kernel, fun pc as h => (by cases h)⟩
theorem cH_feature {E : xV} : CtOk E Yf GX JJ 29 ctH_feature := lone_ok rfl ⟨by decide +kernel, fun pc as h => (by cases h)⟩
theorem cM_feature_0 {E : xV} : CtOk E Yf GX JJ 327 ctM_feature_0 := lone_ok rfl ⟨by decide +kernel, fun pc as h => (by cases h)⟩
theorem cM_feature_1 {E : xV} : CtOk E Yf GX JJ 327 ctM_feature_1 := lone_ok rfl ⟨by decide +kernel, fun pc as h => (by cases h)⟩
theorem cM_feature_2 {E : xV} : CtOk E Yf GX JJ 327 ctM_feature_2 := lone_ok rfl ⟨by decide +kernel, fun pc as h => (by cases h)⟩
theorem cM_feature_3 {E : xV} : CtOk E Yf GX JJ 327 ctM_feature_3 := lone_ok rfl ⟨by decide +kernel, fun pc as h => (by cases h)⟩
theorem cM_feature_4 {E : xV} : CtOk E Yf GX JJ 327 ctM_feature_4 := lone_ok rfl ⟨by decide +kernel, fun pc as h => (by cases h)⟩
theorem cM_feature_5 {E : xV} : CtOk E Yf GX JJ 327 ctM_feature_5 := lone_ok rfl ⟨by decide +kernel, fun pc as h => (by cases h)⟩
theorem cM_feature_6 {E : xV} : CtOk E Yf GX JJ 327 ctM_feature_6 := lone_ok rfl ⟨by decide +kernel, fun pc as h => (by cases h)⟩
theorem cM_feature_7 {E : xV} : CtOk E Yf GX JJ 327 ctM_feature_7 := lone_ok rfl ⟨by decide +kernel, fun pc as h => (by cases h)⟩
theorem cM_feature_8 {E : xV} : CtOk E Yf GX JJ 327 ctM_feature_8 := lone_ok rfl ⟨by decide +kernel, fun pc as h => (by cases h)⟩
theorem cM_feature_9 {E : xV} : CtOk E Yf GX JJ 327 ctM_feature_9 := lone_ok rfl ⟨by decide +kernel, fun pc as h => (by cases h)⟩
theorem cM_feature_10 {E : xV} : CtOk E Yf GX JJ 327 ctM_feature_10 := lone_ok rfl ⟨by decide +kernel, fun pc as h => (by cases h)⟩
theorem cM_feature_11 {E : xV} : CtOk E Yf GX JJ 327 ctM_feature_11 := lone_ok rfl ⟨by decide +kernel, fun pc as h => (by cases h)⟩
theorem cM_feature_12 {E : xV} : CtOk E Yf GX JJ 327 ctM_feature_12 := lone_ok rfl ⟨by decide +kernel, fun pc as h => (by cases h)⟩
theorem cM_feature_13 {E : xV} : CtOk E Yf GX JJ 327 ctM_feature_13 := lone_ok rfl ⟨by decide +kernel, fun pc as h => (by cases h)⟩
theorem cM_feature_14 {E : xV} : CtOk E Yf GX JJ 327 ctM_feature_14 := lone_ok rfl ⟨by decide +kernel, fun pc as h => (by cases h)⟩
theorem cM_feature_15 {E : xV} : CtOk E Yf GX JJ 327 ctM_feature_15 := lone_ok rfl ⟨by decide +kernel, fun pc as h => (by cases h)⟩
theorem cM_feature_16 {E : xV} : CtOk E Yf GX JJ 327 ctM_feature_16 := lone_ok rfl ⟨by decide +kernel, fun pc as h => (by cases h)⟩
theorem cM_feature_17 {E : xV} : CtOk E Yf GX JJ 327 ctM_feature_17 := lone_ok rfl ⟨by decide +kernel, fun pc as h => (by cases h)⟩
theorem cH_copy {E : xV} : CtOk E Yf GX JJ 35 ctH_copy := lone_ok rfl ⟨by decide +kernel, fun pc as h => (by cases h)⟩
theorem cM_copy_0 {E : xV} : CtOk E Yf GX JJ 330 ctM_copy_0 := lone_ok rfl ⟨by decide +kernel, fun pc as h => (by cases h)⟩
theorem cM_copy_1 {E : xV} : CtOk E Yf GX JJ 330 ctM_copy_1 := lone_ok rfl ⟨by decide +kernel, fun pc as h => (by cases h)⟩
theorem kacaM_copy_2_130_0 : chkA GX 3000 330 ctM_copy_2 130 caM_copy_2_130_0 = true := by decide +kernel
theorem kacaM_copy_2_168_0 : chkA GX 3000 330 ctM_copy_2 168 caM_copy_2_168_0 = true := by decide +kernel
theorem cM_copy_2 {E : xV} : CtOk E Yf GX JJ 330 ctM_copy_2 := lone_ok rfl ⟨by decide +kernel, fun pc as h => (show BT.AllP (fun pc as => ∀ a ∈ as, chkA GX 3000 330 ctM_copy_2 pc a = true) ctM_copy_2.cut from ⟨⟨List.forall_mem_cons.mpr ⟨kacaM_copy_2_130_0, fun a ha => by cases ha⟩, trivial⟩, ⟨List.forall_mem_cons.mpr ⟨kacaM_copy_2_168_0, fun a ha => by cases ha⟩, trivial⟩, trivial⟩).at h⟩
theorem cM_copy_3 {E : xV} : CtOk E Yf GX JJ 330 ctM_copy_3 := lone_ok rfl ⟨by decide +kernel, fun pc as h => (by cases h)⟩
theorem cM_copy_4 {E : xV} : CtOk E Yf GX JJ 330 ctM_copy_4 := lone_ok rfl ⟨by decide +kernel, fun pc as h => (by cases h)⟩
theorem cM_copy_5 {E : xV} : CtOk E Yf GX JJ 330 ctM_copy_5 := lone_ok rfl ⟨by decide +kernel, fun pc as h => (by cases h)⟩
theorem cM_copy_6 {E : xV} : CtOk E Yf GX JJ 330 ctM_copy_6 := lone_ok rfl ⟨by decide +kernel, fun pc as h => (by cases h)⟩
theorem cM_copy_7 {E : xV} : CtOk E Yf GX JJ 330 ctM_copy_7 := lone_ok rfl ⟨by decide +kernel, fun pc as h => (by cases h)⟩
theorem cM_copy_8 {E : xV} : CtOk E Yf GX JJ 330 ctM_copy_8 := lone_ok rfl ⟨by decide +kernel, fun pc as h => (by cases h)⟩
theorem cM_copy_9 {E : xV} : CtOk E Yf GX JJ 330 ctM_copy_9 := lone_ok rfl ⟨by decide +kernel, fun pc as h => (by cases h)⟩
theorem cM_copy_10 {E : xV} : CtOk E Yf GX JJ 330 ctM_copy_10 := lone_ok rfl ⟨by decide +kernel, fun pc as h => (by cases h)⟩
theorem cM_copy_11 {E : xV} : CtOk E Yf GX JJ 330 ctM_copy_11 := lone_ok rfl ⟨by decide +kernel, fun pc as h => (by cases h)⟩
theorem cM_copy_12 {E : xV} : CtOk E Yf GX JJ 330 ctM_copy_12 := lone_ok rfl ⟨by decide +kernel, fun pc as h => (by cases h)⟩
theorem cM_copy_13 {E : xV} : CtOk E Yf GX JJ 330 ctM_copy_13 := lone_ok rfl ⟨by decide +kernel, fun pc as h => (by cases h)⟩
theorem kacaM_copy_14_130_0 : chkA GX 3000 330 ctM_copy_14 130 caM_copy_14_130_0 = true := by decide +kernel
theorem kacaM_copy_14_168_0 : chkA GX 3000 330 ctM_copy_14 168 caM_copy_14_168_0 = true := by decide +kernel
theorem cM_copy_14 {E : xV} : CtOk E Yf GX JJ 330 ctM_copy_14 := lone_ok rfl ⟨by decide +kernel, fun pc as h => (show BT.AllP (fun pc as => ∀ a ∈ as, chkA GX 3000 330 ctM_copy_14 pc a = true) ctM_copy_14.cut from ⟨⟨List.forall_mem_cons.mpr ⟨kacaM_copy_14_130_0, fun a ha => by cases ha⟩, trivial⟩, ⟨List.forall_mem_cons.mpr ⟨kacaM_copy_14_168_0, fun a ha => by cases ha⟩, trivial⟩, trivial⟩).at h⟩
theorem cM_copy_15 {E : xV} : CtOk E Yf GX JJ 330 ctM_copy_15 := lone_ok rfl ⟨by decide +kernel, fun pc as h => (by cases h)⟩
theorem cM_copy_16 {E : xV} : CtOk E Yf GX JJ 330 ctM_copy_16 := lone_ok rfl ⟨by decide +kernel, fun pc as h => (by cases h)⟩
theorem cM_copy_17 {E : xV} : CtOk E Yf GX JJ 330 ctM_copy_17 := lone_ok rfl ⟨by decide +kernel, fun pc as h => (by cases h)⟩
theorem cM_copy_18 {E : xV} : CtOk E Yf GX JJ 330 ctM_copy_18 := lone_ok rfl ⟨by decide +kernel, fun pc as h => (by cases h)⟩
theorem cM_copy_19 {E : xV} : CtOk E Yf GX JJ 330 ctM_copy_19 := lone_ok rfl ⟨by decide +kernel, fun pc as h => (by cases h)⟩
theorem cM_copy_20 {E : xV} : CtOk E Yf GX JJ 330 ctM_copy_20 := lone_ok rfl ⟨by decide +kernel, fun pc as h => (by cases h)⟩
theorem cM_copy_21 {E : xV} : CtOk E Yf GX JJ 330 ctM_copy_21 := lone_ok rfl ⟨by decide +kernel, fun pc as h => (by cases h)⟩
theorem cM_copy_22 {E : xV} : CtOk E Yf GX JJ 330 ctM_copy_22 := lone_ok rfl ⟨by decide +kernel, fun pc as h => (by cases h)⟩
theorem cM_copy_23 {E : xV} : CtOk E Yf GX JJ 330 ctM_copy_23 := lone_ok rfl ⟨by decide +kernel, fun pc as h => (by cases h)⟩
theorem cM_copy_24 {E : xV} : CtOk E Yf GX JJ 330 ctM_copy_24 := lone_ok rfl ⟨by decide +kernel, fun pc as h => (by cases h)⟩
theorem cM_copy_25 {E : xV} : CtOk E Yf GX JJ 330 ctM_copy_25 := lone_ok rfl ⟨by decide +kernel, fun pc as h => (by cases h)⟩
theorem cM_copy_26 {E : xV} : CtOk E Yf GX JJ 330 ctM_copy_26 := lone_ok rfl ⟨by decide +kernel, fun pc as h => (by cases h)⟩
theorem cM_copy_27 {E : xV} : CtOk E Yf GX JJ 330 ctM_copy_27 := lone_ok rfl ⟨by decide +kernel, fun pc as h => (by cases h)⟩
theorem cM_copy_28 {E : xV} : CtOk E Yf GX JJ 330 ctM_copy_28 := lone_ok rfl ⟨by decide +kernel, fun pc as h => (by cases h)⟩
theorem cM_copy_29 {E : xV} : CtOk E Yf GX JJ 330 ctM_copy_29 := lone_ok rfl ⟨by decide +kernel, fun pc as h => (by cases h)⟩
theorem cM_copy_30 {E : xV} : CtOk E Yf GX JJ 330 ctM_copy_30 := lone_ok rfl ⟨by decide +kernel, fun pc as h => (by cases h)⟩
theorem cM_copy_31 {E : xV} : CtOk E Yf GX JJ 330 ctM_copy_31 := lone_ok rfl ⟨by decide +kernel, fun pc as h => (by cases h)⟩
theorem kacaM_copy_32_130_0 : chkA GX 3000 330 ctM_copy_32 130 caM_copy_32_130_0 = true := by decide +kernel
theorem kacaM_copy_32_168_0 : chkA GX 3000 330 ctM_copy_32 168 caM_copy_32_168_0 = true := by decide +kernel
theorem cM_copy_32 {E : xV} : CtOk E Yf GX JJ 330 ctM_copy_32 := lone_ok rfl ⟨by decide +kernel, fun pc as h => (show BT.AllP (fun pc as => ∀ a ∈ as, chkA GX 3000 330 ctM_copy_32 pc a = true) ctM_copy_32.cut from ⟨⟨List.forall_mem_cons.mpr ⟨kacaM_copy_32_130_0, fun a ha => by cases ha⟩, trivial⟩, ⟨List.forall_mem_cons.mpr ⟨kacaM_copy_32_168_0, fun a ha => by cases ha⟩, trivial⟩, trivial⟩).at h⟩
theorem cM_copy_33 {E : xV} : CtOk E Yf GX JJ 330 ctM_copy_33 := lone_ok rfl ⟨by decide +kernel, fun pc as h => (by cases h)⟩
theorem cM_copy_34 {E : xV} : CtOk E Yf GX JJ 330 ctM_copy_34 := lone_ok rfl ⟨by decide +kernel, fun pc as h => (by cases h)⟩
theorem cM_copy_35 {E : xV} : CtOk E Yf GX JJ 330 ctM_copy_35 := lone_ok rfl ⟨by decide +kernel, fun pc as h => (by cases h)⟩
theorem cM_copy_36 {E : xV} : CtOk E Yf GX JJ 330 ctM_copy_36 := lone_ok rfl ⟨by decide +kernel, fun pc as h => (by cases h)⟩
theorem cM_copy_37 {E : xV} : CtOk E Yf GX JJ 330 ctM_copy_37 := lone_ok rfl ⟨by decide +kernel, fun pc as h => (by cases h)⟩
theorem cM_copy_38 {E : xV} : CtOk E Yf GX JJ 330 ctM_copy_38 := lone_ok rfl ⟨by decide +kernel, fun pc as h => (by cases h)⟩
theorem cM_copy_39 {E : xV} : CtOk E Yf GX JJ 330 ctM_copy_39 := lone_ok rfl ⟨by decide +kernel, fun pc as h => (by cases h)⟩
theorem cM_copy_40 {E : xV} : CtOk E Yf GX JJ 330 ctM_copy_40 := lone_ok rfl ⟨by decide +kernel, fun pc as h => (by cases h)⟩
theorem cM_copy_41 {E : xV} : CtOk E Yf GX JJ 330 ctM_copy_41 := lone_ok rfl ⟨by decide +kernel, fun pc as h => (by cases h)⟩
theorem cM_copy_42 {E : xV} : CtOk E Yf GX JJ 330 ctM_copy_42 := lone_ok rfl ⟨by decide +kernel, fun pc as h => (by cases h)⟩
theorem cM_copy_43 {E : xV} : CtOk E Yf GX JJ 330 ctM_copy_43 := lone_ok rfl ⟨by decide +kernel, fun pc as h => (by cases h)⟩
theorem kacaM_copy_44_130_0 : chkA GX 3000 330 ctM_copy_44 130 caM_copy_44_130_0 = true := by decide +kernel
theorem kacaM_copy_44_168_0 : chkA GX 3000 330 ctM_copy_44 168 caM_copy_44_168_0 = true := by decide +kernel
theorem cM_copy_44 {E : xV} : CtOk E Yf GX JJ 330 ctM_copy_44 := lone_ok rfl ⟨by decide +kernel, fun pc as h => (show BT.AllP (fun pc as => ∀ a ∈ as, chkA GX 3000 330 ctM_copy_44 pc a = true) ctM_copy_44.cut from ⟨⟨List.forall_mem_cons.mpr ⟨kacaM_copy_44_130_0, fun a ha => by cases ha⟩, trivial⟩, ⟨List.forall_mem_cons.mpr ⟨kacaM_copy_44_168_0, fun a ha => by cases ha⟩, trivial⟩, trivial⟩).at h⟩
theorem cM_copy_45 {E : xV} : CtOk E Yf GX JJ 330 ctM_copy_45 := lone_ok rfl ⟨by decide +kernel, fun pc as h => (by cases h)⟩
theorem cM_copy_46 {E : xV} : CtOk E Yf GX JJ 330 ctM_copy_46 := lone_ok rfl ⟨by decide +kernel, fun pc as h => (by cases h)⟩
theorem cM_copy_47 {E : xV} : CtOk E Yf GX JJ 330 ctM_copy_47 := lone_ok rfl ⟨by decide +kernel, fun pc as h => (by cases h)⟩
theorem cM_copy_48 {E : xV} : CtOk E Yf GX JJ 330 ctM_copy_48 := lone_ok rfl ⟨by decide +kernel, fun pc as h => (by cases h)⟩
theorem cM_copy_49 {E : xV} : CtOk E Yf GX JJ 330 ctM_copy_49 := lone_ok rfl ⟨by decide +kernel, fun pc as h => (by cases h)⟩
theorem cM_copy_50 {E : xV} : CtOk E Yf GX JJ 330 ctM_copy_50 := lone_ok rfl ⟨by decide +kernel, fun pc as h => (by cases h)⟩
theorem cM_copy_51 {E : xV} : CtOk E Yf GX JJ 330 ctM_copy_51 := lone_ok rfl ⟨by decide +kernel, fun pc as h => (by cases h)⟩
theorem cM_copy_52 {E : xV} : CtOk E Yf GX JJ 330 ctM_copy_52 := lone_ok rfl ⟨by decide +kernel, fun pc as h => (by cases h)⟩
theorem cM_copy_53 {E : xV} : CtOk E Yf GX JJ 330 ctM_copy_53 := lone_ok rfl ⟨by decide +kernel, fun pc as h => (by cases h)⟩
theorem cM_copy_54 {E : xV} : CtOk E Yf GX JJ 330 ctM_copy_54 := lone_ok rfl ⟨by decide +kernel, fun pc as h => (by cases h)⟩
theorem cM_copy_55 {E : xV} : CtOk E Yf GX JJ 330 ctM_copy_55 := lone_ok rfl ⟨by decide +kernel, fun pc as h => (by cases h)⟩
theorem cM_copy_56 {E : xV} : CtOk E Yf GX JJ 330 ctM_copy_56 := lone_ok rfl ⟨by decide +kernel, fun pc as h => (by cases h)⟩
theorem cM_copy_57 {E : xV} : CtOk E Yf GX JJ 330 ctM_copy_57 := lone_ok rfl ⟨by decide +kernel, fun pc as h => (by cases h)⟩
theorem cM_copy_58 {E : xV} : CtOk E Yf GX JJ 330 ctM_copy_58 := lone_ok rfl ⟨by decide +kernel, fun pc as h => (by cases h)⟩
theorem cM_copy_59 {E : xV} : CtOk E Yf GX JJ 330 ctM_copy_59 := lone_ok rfl ⟨by decide +kernel, fun pc as h => (by cases h)⟩
theorem cM_copy_60 {E : xV} : CtOk E Yf GX JJ 330 ctM_copy_60 := lone_ok rfl ⟨by decide +kernel, fun pc as h => (by cases h)⟩
theorem cM_copy_61 {E : xV} : CtOk E Yf GX JJ 330 ctM_copy_61 := lone_ok rfl ⟨by decide +kernel, fun pc as h => (by cases h)⟩
theorem cM_copy_62 {E : xV} : CtOk E Yf GX JJ 330 ctM_copy_62 := lone_ok rfl ⟨by decide +kernel, fun pc as h => (by cases h)⟩
theorem cM_copy_63 {E : xV} : CtOk E Yf GX JJ 330 ctM_copy_63 := lone_ok rfl ⟨by decide +kernel, fun pc as h => (by cases h)⟩
theorem cM_copy_64 {E : xV} : CtOk E Yf GX JJ 330 ctM_copy_64 := lone_ok rfl ⟨by decide +kernel, fun pc as h => (by cases h)⟩
theorem cM_copy_65 {E : xV} : CtOk E Yf GX JJ 330 ctM_copy_65 := lone_ok rfl ⟨by decide +kernel, fun pc as h => (by cases h)⟩
theorem cM_copy_66 {E : xV} : CtOk E Yf GX JJ 330 ctM_copy_66 := lone_ok rfl ⟨by decide +kernel, fun pc as h => (by cases h)⟩
theorem cM_copy_67 {E : xV} : CtOk E Yf GX JJ 330 ctM_copy_67 := lone_ok rfl ⟨by decide +kernel, fun pc as h => (by cases h)⟩
theorem cM_copy_68 {E : xV} : CtOk E Yf GX JJ 330 ctM_copy_68 := lone_ok rfl ⟨by decide +kernel, fun pc as h => (by cases h)⟩
theorem cM_copy_69 {E : xV} : CtOk E Yf GX JJ 330 ctM_copy_69 := lone_ok rfl ⟨by decide +kernel, fun pc as h => (by cases h)⟩
theorem cM_copy_70 {E : xV} : CtOk E Yf GX JJ 330 ctM_copy_70 := lone_ok rfl ⟨by decide +kernel, fun pc as h => (by cases h)⟩
theorem cM_copy_71 {E : xV} : CtOk E Yf GX JJ 330 ctM_copy_71 := lone_ok rfl ⟨by decide +kernel, fun pc as h => (by cases h)⟩
theorem cM_copy_72 {E : xV} : CtOk E Yf GX JJ 330 ctM_copy_72 := lone_ok rfl ⟨by decide +kernel, fun pc as h => (by cases h)⟩
theorem cM_copy_73 {E : xV} : CtOk E Yf GX JJ 330 ctM_copy_73 := lone_ok rfl ⟨by decide +kernel, fun pc as h => (by cases h)⟩
theorem cM_copy_74 {E : xV} : CtOk E Yf GX JJ 330 ctM_copy_74 := lone_ok rfl ⟨by decide +kernel, fun pc as h => (by cases h)⟩
theorem cM_copy_75 {E : xV} : CtOk E Yf GX JJ 330 ctM_copy_75 := lone_ok rfl ⟨by decide +kernel, fun pc as h => (by cases h)⟩
theorem cM_copy_76 {E : xV} : CtOk E Yf GX JJ 330 ctM_copy_76 := lone_ok rfl ⟨by decide +kernel, fun pc as h => (by cases h)⟩
theorem cM_copy_77 {E : xV} : CtOk E Yf GX JJ 330 ctM_copy_77 := lone_ok rfl ⟨by decide +kernel, fun pc as h => (by cases h)⟩
theorem cM_copy_78 {E : xV} : CtOk E Yf GX JJ 330 ctM_copy_78 := lone_ok rfl ⟨by decide +kernel, fun pc as h => (by cases h)⟩
theorem cM_copy_79 {E : xV} : CtOk E Yf GX JJ 330 ctM_copy_79 := lone_ok rfl ⟨by decide +kernel, fun pc as h => (by cases h)⟩
theorem cM_copy_80 {E : xV} : CtOk E Yf GX JJ 330 ctM_copy_80 := lone_ok rfl ⟨by decide +kernel, fun pc as h => (by cases h)⟩
theorem cM_copy_81 {E : xV} : CtOk E Yf GX JJ 330 ctM_copy_81 := lone_ok rfl ⟨by decide +kernel, fun pc as h => (by cases h)⟩
theorem cM_copy_82 {E : xV} : CtOk E Yf GX JJ 330 ctM_copy_82 := lone_ok rfl ⟨by decide +kernel, fun pc as h => (by cases h)⟩
theorem cM_copy_83 {E : xV} : CtOk E Yf GX JJ 330 ctM_copy_83 := lone_ok rfl ⟨by decide +kernel, fun pc as h => (by cases h)⟩
theorem cM_copy_84 {E : xV} : CtOk E Yf GX JJ 330 ctM_copy_84 := lone_ok rfl ⟨by decide +kernel, fun pc as h => (by cases h)⟩
theorem cM_copy_85 {E : xV} : CtOk E Yf GX JJ 330 ctM_copy_85 := lone_ok rfl ⟨by decide +kernel, fun pc as h => (by cases h)⟩
theorem cM_copy_86 {E : xV} : CtOk E Yf GX JJ 330 ctM_copy_86 := lone_ok rfl ⟨by decide +kernel, fun pc as h => (by cases h)⟩
theorem cM_copy_87 {E : xV} : CtOk E Yf GX JJ 330 ctM_copy_87 := lone_ok rfl ⟨by decide +kernel, fun pc as h => (by cases h)⟩
theorem cM_copy_88 {E : xV} : CtOk E Yf GX JJ 330 ctM_copy_88 := lone_ok rfl ⟨by decide +kernel, fun pc as h => (by cases h)⟩
theorem cM_copy_89 {E : xV} : CtOk E Yf GX JJ 330 ctM_copy_89 := lone_ok rfl ⟨by decide +kernel, fun pc as h => (by cases h)⟩
theorem cM_copy_90 {E : xV} : CtOk E Yf GX JJ 330 ctM_copy_90 := lone_ok rfl ⟨by decide +kernel, fun pc as h => (by cases h)⟩
theorem cM_copy_91 {E : xV} : CtOk E Yf GX JJ 330 ctM_copy_91 := lone_ok rfl ⟨by decide +kernel, fun pc as h => (by cases h)⟩
theorem cM_copy_92 {E : xV} : CtOk E Yf GX JJ 330 ctM_copy_92 := lone_ok rfl ⟨by decide +kernel, fun pc as h => (by cases h)⟩
theorem cM_copy_93 {E : xV} : CtOk E Yf GX JJ 330 ctM_copy_93 := lone_ok rfl ⟨by decide +kernel, fun pc as h => (by cases h)⟩
theorem cM_copy_94 {E : xV} : CtOk E Yf GX JJ 330 ctM_copy_94 := lone_ok rfl ⟨by decide +kernel, fun pc as h => (by cases h)⟩
theorem cM_copy_95 {E : xV} : CtOk E Yf GX JJ 330 ctM_copy_95 := lone_ok rfl ⟨by decide +kernel, fun pc as h => (by cases h)⟩
theorem cM_copy_96 {E : xV} : CtOk E Yf GX JJ 330 ctM_copy_96 := lone_ok rfl ⟨by decide +kernel, fun pc as h => (by cases h)⟩
theorem cM_copy_97 {E : xV} : CtOk E Yf GX JJ 330 ctM_copy_97 := lone_ok rfl ⟨by decide +kernel, fun pc as h => (by cases h)⟩
theorem cM_copy_98 {E : xV} : CtOk E Yf GX JJ 330 ctM_copy_98 := lone_ok rfl ⟨by decide +kernel, fun pc as h => (by cases h)⟩
theorem cM_copy_99 {E : xV} : CtOk E Yf GX JJ 330 ctM_copy_99 := lone_ok rfl ⟨by decide +kernel, fun pc as h => (by cases h)⟩
theorem cM_copy_100 {E : xV} : CtOk E Yf GX JJ 330 ctM_copy_100 := lone_ok rfl ⟨by decide +kernel, fun pc as h => (by cases h)⟩
theorem cM_copy_101 {E : xV} : CtOk E Yf GX JJ 330 ctM_copy_101 := lone_ok rfl ⟨by decide +kernel, fun pc as h => (by cases h)⟩
theorem cM_copy_102 {E : xV} : CtOk E Yf GX JJ 330 ctM_copy_102 := lone_ok rfl ⟨by decide +kernel, fun pc as h => (by cases h)⟩
theorem cM_copy_103 {E : xV} : CtOk E Yf GX JJ 330 ctM_copy_103 := lone_ok rfl ⟨by decide +kernel, fun pc as h => (by cases h)⟩
theorem cM_copy_104 {E : xV} : CtOk E Yf GX JJ 330 ctM_copy_104 := lone_ok rfl ⟨by decide +kernel, fun pc as h => (by cases h)⟩
theorem cM_copy_105 {E : xV} : CtOk E Yf GX JJ 330 ctM_copy_105 := lone_ok rfl ⟨by decide +kernel, fun pc as h => (by cases h)⟩
theorem cM_copy_106 {E : xV} : CtOk E Yf GX JJ 330 ctM_copy_106 := lone_ok rfl ⟨by decide +kernel, fun pc as h => (by cases h)⟩
theorem cM_copy_107 {E : xV} : CtOk E Yf GX JJ 330 ctM_copy_107 := lone_ok rfl ⟨by decide +kernel, fun pc as h => (by cases h)⟩
theorem cH_thing {E : xV} : CtOk E Yf GX JJ 37 ctH_thing := lone_ok rfl ⟨by decide +kernel, fun pc as h => (by cases h)⟩
theorem cM_thing_0 {E : xV} : CtOk E Yf GX JJ 333 ctM_thing_0 := lone_ok rfl ⟨by decide +kernel, fun pc as h => (by cases h)⟩
theorem cM_thing_1 {E : xV} : CtOk E Yf GX JJ 333 ctM_thing_1 := lone_ok rfl ⟨by decide +kernel, fun pc as h => (by cases h)⟩
theorem cM_thing_2 {E : xV} : CtOk E Yf GX JJ 333 ctM_thing_2 := lone_ok rfl ⟨by decide +kernel, fun pc as h => (by cases h)⟩
theorem cM_thing_3 {E : xV} : CtOk E Yf GX JJ 333 ctM_thing_3 := lone_ok rfl ⟨by decide +kernel, fun pc as h => (by cases h)⟩
theorem cM_thing_4 {E : xV} : CtOk E Yf GX JJ 333 ctM_thing_4 := lone_ok rfl ⟨by decide +kernel, fun pc as h => (by cases h)⟩
theorem cM_thing_5 {E : xV} : CtOk E Yf GX JJ 333 ctM_thing_5 := lone_ok rfl ⟨by decide +kernel, fun pc as h => (by cases h)⟩
theorem cM_thing_6 {E : xV} : CtOk E Yf GX JJ 333 ctM_thing_6 := lone_ok rfl ⟨by decide +kernel, fun pc as h => (by cases h)⟩
theorem cM_thing_7 {E : xV} : CtOk E Yf GX JJ 333 ctM_thing_7 := lone_ok rfl ⟨by decide +kernel, fun pc as h => (by cases h)⟩
theorem cM_thing_8 {E : xV} : CtOk E Yf GX JJ 333 ctM_thing_8 := lone_ok rfl ⟨by decide +kernel, fun pc as h => (by cases h)⟩
theorem cH_move {E : xV} : CtOk E Yf GX JJ 39 ctH_move := lone_ok rfl ⟨by decide +kernel, fun pc as h => (by cases h)⟩
theorem kacaM_move_0_28_0 : chkA GX 3000 334 ctM_move_0 28 caM_move_0_28_0 = true := by decide +kernel
theorem cM_move_0 {E : xV} : CtOk E Yf GX JJ 334 ctM_move_0 := lone_ok rfl ⟨by decide +kernel, fun pc as h => (show BT.AllP (fun pc as => ∀ a ∈ as, chkA GX 3000 334 ctM_move_0 pc a = true) ctM_move_0.cut from ⟨⟨List.forall_mem_cons.mpr ⟨kacaM_move_0_28_0, fun a ha => by cases ha⟩, trivial⟩, trivial⟩).at h⟩
theorem kacaM_move_1_28_0 : chkA GX 3000 334 ctM_move_1 28 caM_move_1_28_0 = true := by decide +kernel
theorem cM_move_1 {E : xV} : CtOk E Yf GX JJ 334 ctM_move_1 := lone_ok rfl ⟨by decide +kernel, fun pc as h => (show BT.AllP (fun pc as => ∀ a ∈ as, chkA GX 3000 334 ctM_move_1 pc a = true) ctM_move_1.cut from ⟨⟨List.forall_mem_cons.mpr ⟨kacaM_move_1_28_0, fun a ha => by cases ha⟩, trivial⟩, trivial⟩).at h⟩
theorem cM_move_2 {E : xV} : CtOk E Yf GX JJ 334 ctM_move_2 := lone_ok rfl ⟨by decide +kernel, fun pc as h => (by cases h)⟩
theorem cM_move_3 {E : xV} : CtOk E Yf GX JJ 334 ctM_move_3 := lone_ok rfl ⟨by decide +kernel, fun pc as h => (by cases h)⟩
theorem cM_move_4 {E : xV} : CtOk E Yf GX JJ 334 ctM_move_4 := lone_ok rfl ⟨by decide +kernel, fun pc as h => (by cases h)⟩
theorem cM_move_5 {E : xV} : CtOk E Yf GX JJ 334 ctM_move_5 := lone_ok rfl ⟨by decide +kernel, fun pc as h => (by cases h)⟩
theorem cM_move_6 {E : xV} : CtOk E Yf GX JJ 334 ctM_move_6 := lone_ok rfl ⟨by decide +kernel, fun pc as h => (by cases h)⟩
theorem cM_move_7 {E : xV} : CtOk E Yf GX JJ 334 ctM_move_7 := lone_ok rfl ⟨by decide +kernel, fun pc as h => (by cases h)⟩
theorem cM_move_8 {E : xV} : CtOk E Yf GX JJ 334 ctM_move_8 := lone_ok rfl ⟨by decide +kernel, fun pc as h => (by cases h)⟩
theorem cH_cutOff {E : xV} : CtOk E Yf GX JJ 40 ctH_cutOff := lone_ok rfl ⟨by decide +kernel, fun pc as h => (by cases h)⟩
theorem cM_cutOff_0 {E : xV} : CtOk E Yf GX JJ 335 ctM_cutOff_0 := lone_ok rfl ⟨by decide +kernel, fun pc as h => (by cases h)⟩
theorem cM_cutOff_1 {E : xV} : CtOk E Yf GX JJ 335 ctM_cutOff_1 := lone_ok rfl ⟨by decide +kernel, fun pc as h => (by cases h)⟩
theorem cM_cutOff_2 {E : xV} : CtOk E Yf GX JJ 335 ctM_cutOff_2 := lone_ok rfl ⟨by decide +kernel, fun pc as h => (by cases h)⟩
theorem cM_cutOff_3 {E : xV} : CtOk E Yf GX JJ 335 ctM_cutOff_3 := lone_ok rfl ⟨by decide +kernel, fun pc as h => (by cases h)⟩
theorem cM_cutOff_4 {E : xV} : CtOk E Yf GX JJ 335 ctM_cutOff_4 := lone_ok rfl ⟨by decide +kernel, fun pc as h => (by cases h)⟩
theorem cM_cutOff_5 {E : xV} : CtOk E Yf GX JJ 335 ctM_cutOff_5 := lone_ok rfl ⟨by decide +kernel, fun pc as h => (by cases h)⟩
theorem cH_drop {E : xV} : CtOk E Yf GX JJ 42 ctH_drop := lone_ok rfl ⟨by decide +kernel, fun pc as h => (by cases h)⟩
theorem kacaM_drop_0_20_0 : chkA GX 3000 336 ctM_drop_0 20 caM_drop_0_20_0 = true := by decide +kernel
theorem kacaM_drop_0_20_1 : chkA GX 3000 336 ctM_drop_0 20 caM_drop_0_20_1 = true := by decide +kernel
theorem cM_drop_0 {E : xV} : CtOk E Yf GX JJ 336 ctM_drop_0 := lone_ok rfl ⟨by decide +kernel, fun pc as h => (show BT.AllP (fun pc as => ∀ a ∈ as, chkA GX 3000 336 ctM_drop_0 pc a = true) ctM_drop_0.cut from ⟨⟨List.forall_mem_cons.mpr ⟨kacaM_drop_0_20_0, List.forall_mem_cons.mpr ⟨kacaM_drop_0_20_1, fun a ha => by cases ha⟩⟩, trivial⟩, trivial⟩).at h⟩
theorem kacaM_drop_1_20_0 : chkA GX 3000 336 ctM_drop_1 20 caM_drop_1_20_0 = true := by decide +kernel
theorem kacaM_drop_1_20_1 : chkA GX 3000 336 ctM_drop_1 20 caM_drop_1_20_1 = true := by decide +kernel
theorem cM_drop_1 {E : xV} : CtOk E Yf GX JJ 336 ctM_drop_1 := lone_ok rfl ⟨by decide +kernel, fun pc as h => (show BT.AllP (fun pc as => ∀ a ∈ as, chkA GX 3000 336 ctM_drop_1 pc a = true) ctM_drop_1.cut from ⟨⟨List.forall_mem_cons.mpr ⟨kacaM_drop_1_20_0, List.forall_mem_cons.mpr ⟨kacaM_drop_1_20_1, fun a ha => by cases ha⟩⟩, trivial⟩, trivial⟩).at h⟩
theorem cM_drop_2 {E : xV} : CtOk E Yf GX JJ 336 ctM_drop_2 := lone_ok rfl ⟨by decide +kernel, fun pc as h => (by cases h)⟩
theorem cM_drop_3 {E : xV} : CtOk E Yf GX JJ 336 ctM_drop_3 := lone_ok rfl ⟨by decide +kernel, fun pc as h => (by cases h)⟩
theorem cM_drop_4 {E : xV} : CtOk E Yf GX JJ 336 ctM_drop_4 := lone_ok rfl ⟨by decide +kernel, fun pc as h => (by cases h)⟩
theorem cM_drop_5 {E : xV} : CtOk E Yf GX JJ 336 ctM_drop_5 := lone_ok rfl ⟨by decide +kernel, fun pc as h => (by cases h)⟩
