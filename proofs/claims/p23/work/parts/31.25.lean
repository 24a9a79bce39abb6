theorem kre_Po_readBothWays : chkE GXo 3000 99 ctr_Po_readBothWays = true := by decide +kernel
theorem kr_Po_readBothWays : Chk GXo 3000 99 ctr_Po_readBothWays := ⟨kre_Po_readBothWays, fun pc as h => (show BT.AllP (fun pc as => ∀ a ∈ as, chkA GXo 3000 99 ctr_Po_readBothWays pc a = true) ctr_Po_readBothWays.cut from trivial).at h⟩
theorem kre_Po_readSuch : chkE GXo 3000 100 ctr_Po_readSuch = true := by decide +kernel
theorem kr_Po_readSuch : Chk GXo 3000 100 ctr_Po_readSuch := ⟨kre_Po_readSuch, fun pc as h => (show BT.AllP (fun pc as => ∀ a ∈ as, chkA GXo 3000 100 ctr_Po_readSuch pc a = true) ctr_Po_readSuch.cut from trivial).at h⟩
theorem kre_Po_readPart : chkE GXo 3000 101 ctr_Po_readPart = true := by decide +kernel
theorem kra_Po_readPart_12_0 : chkA GXo 3000 101 ctr_Po_readPart 12 car_Po_readPart_12_0 = true := by decide +kernel
theorem kr_Po_readPart : Chk GXo 3000 101 ctr_Po_readPart := ⟨kre_Po_readPart, fun pc as h => (show BT.AllP (fun pc as => ∀ a ∈ as, chkA GXo 3000 101 ctr_Po_readPart pc a = true) ctr_Po_readPart.cut from ⟨⟨List.forall_mem_cons.mpr ⟨kra_Po_readPart_12_0, fun a ha => by cases ha⟩, trivial⟩, trivial⟩).at h⟩
theorem kre_Po_readCondition : chkE GXo 3000 102 ctr_Po_readCondition = true := by decide +kernel
theorem kra_Po_readCondition_12_0 : chkA GXo 3000 102 ctr_Po_readCondition 12 car_Po_readCondition_12_0 = true := by decide +kernel
theorem kr_Po_readCondition : Chk GXo 3000 102 ctr_Po_readCondition := ⟨kre_Po_readCondition, fun pc as h => (show BT.AllP (fun pc as => ∀ a ∈ as, chkA GXo 3000 102 ctr_Po_readCondition pc a = true) ctr_Po_readCondition.cut from ⟨⟨List.forall_mem_cons.mpr ⟨kra_Po_readCondition_12_0, fun a ha => by cases ha⟩, trivial⟩, trivial⟩).at h⟩
theorem kre_Po_readRule : chkE GXo 3000 103 ctr_Po_readRule = true := by decide +kernel
theorem kr_Po_readRule : Chk GXo 3000 103 ctr_Po_readRule := ⟨kre_Po_readRule, fun pc as h => (show BT.AllP (fun pc as => ∀ a ∈ as, chkA GXo 3000 103 ctr_Po_readRule pc a = true) ctr_Po_readRule.cut from trivial).at h⟩
theorem kre_Po_read : chkE GXo 3000 104 ctr_Po_read = true := by decide +kernel
theorem kra_Po_read_40_0 : chkA GXo 3000 104 ctr_Po_read 40 car_Po_read_40_0 = true := by decide +kernel
theorem kr_Po_read : Chk GXo 3000 104 ctr_Po_read := ⟨kre_Po_read, fun pc as h => (show BT.AllP (fun pc as => ∀ a ∈ as, chkA GXo 3000 104 ctr_Po_read pc a = true) ctr_Po_read.cut from ⟨⟨List.forall_mem_cons.mpr ⟨kra_Po_read_40_0, fun a ha => by cases ha⟩, trivial⟩, trivial⟩).at h⟩
theorem kre_F_M_length : chkE GXo 3000 291 ctr_F_M_length = true := by decide +kernel
theorem kra_F_M_length_4_0 : chkA GXo 3000 291 ctr_F_M_length 4 car_F_M_length_4_0 = true := by decide +kernel
theorem kra_F_M_length_4_1 : chkA GXo 3000 291 ctr_F_M_length 4 car_F_M_length_4_1 = true := by decide +kernel
theorem kra_F_M_length_4_2 : chkA GXo 3000 291 ctr_F_M_length 4 car_F_M_length_4_2 = true := by decide +kernel
theorem kra_F_M_length_4_3 : chkA GXo 3000 291 ctr_F_M_length 4 car_F_M_length_4_3 = true := by decide +kernel
theorem kra_F_M_length_4_4 : chkA GXo 3000 291 ctr_F_M_length 4 car_F_M_length_4_4 = true := by decide +kernel
theorem kra_F_M_length_4_5 : chkA GXo 3000 291 ctr_F_M_length 4 car_F_M_length_4_5 = true := by decide +kernel
theorem kra_F_M_length_4_6 : chkA GXo 3000 291 ctr_F_M_length 4 car_F_M_length_4_6 = true := by decide +kernel
theorem kra_F_M_length_4_7 : chkA GXo 3000 291 ctr_F_M_length 4 car_F_M_length_4_7 = true := by decide +kernel
theorem kra_F_M_length_4_8 : chkA GXo 3000 291 ctr_F_M_length 4 car_F_M_length_4_8 = true := by decide +kernel
theorem kra_F_M_length_4_9 : chkA GXo 3000 291 ctr_F_M_length 4 car_F_M_length_4_9 = true := by decide +kernel
theorem kra_F_M_length_4_10 : chkA GXo 3000 291 ctr_F_M_length 4 car_F_M_length_4_10 = true := by decide +kernel
theorem kra_F_M_length_4_11 : chkA GXo 3000 291 ctr_F_M_length 4 car_F_M_length_4_11 = true := by decide +kernel
theorem kra_F_M_length_4_12 : chkA GXo 3000 291 ctr_F_M_length 4 car_F_M_length_4_12 = true := by decide +kernel
theorem kra_F_M_length_4_13 : chkA GXo 3000 291 ctr_F_M_length 4 car_F_M_length_4_13 = true := by decide +kernel
theorem kra_F_M_length_4_14 : chkA GXo 3000 291 ctr_F_M_length 4 car_F_M_length_4_14 = true := by decide +kernel
theorem kra_F_M_length_4_15 : chkA GXo 3000 291 ctr_F_M_length 4 car_F_M_length_4_15 = true := by decide +kernel
theorem kra_F_M_length_4_16 : chkA GXo 3000 291 ctr_F_M_length 4 car_F_M_length_4_16 = true := by decide +kernel
theorem kra_F_M_length_4_17 : chkA GXo 3000 291 ctr_F_M_length 4 car_F_M_length_4_17 = true := by decide +kernel
theorem kra_F_M_length_4_18 : chkA GXo 3000 291 ctr_F_M_length 4 car_F_M_length_4_18 = true := by decide +kernel
theorem kra_F_M_length_4_19 : chkA GXo 3000 291 ctr_F_M_length 4 car_F_M_length_4_19 = true := by decide +kernel
theorem kra_F_M_length_4_20 : chkA GXo 3000 291 ctr_F_M_length 4 car_F_M_length_4_20 = true := by decide +kernel
theorem kra_F_M_length_4_21 : chkA GXo 3000 291 ctr_F_M_length 4 car_F_M_length_4_21 = true := by decide +kernel
theorem kra_F_M_length_4_22 : chkA GXo 3000 291 ctr_F_M_length 4 car_F_M_length_4_22 = true := by decide +kernel
theorem kra_F_M_length_4_23 : chkA GXo 3000 291 ctr_F_M_length 4 car_F_M_length_4_23 = true := by decide +kernel
theorem kra_F_M_length_4_24 : chkA GXo 3000 291 ctr_F_M_length 4 car_F_M_length_4_24 = true := by decide +kernel
theorem kra_F_M_length_4_25 : chkA GXo 3000 291 ctr_F_M_length 4 car_F_M_length_4_25 = true := by decide +kernel
theorem kra_F_M_length_4_26 : chkA GXo 3000 291 ctr_F_M_length 4 car_F_M_length_4_26 = true := by decide +kernel
theorem kra_F_M_length_4_27 : chkA GXo 3000 291 ctr_F_M_length 4 car_F_M_length_4_27 = true := by decide +kernel
theorem kra_F_M_length_4_28 : chkA GXo 3000 291 ctr_F_M_length 4 car_F_M_length_4_28 = true := by decide +kernel
theorem kra_F_M_length_4_29 : chkA GXo 3000 291 ctr_F_M_length 4 car_F_M_length_4_29 = true := by decide +kernel
theorem kra_F_M_length_4_30 : chkA GXo 3000 291 ctr_F_M_length 4 car_F_M_length_4_30 = true := by decide +kernel
theorem kra_F_M_length_4_31 : chkA GXo 3000 291 ctr_F_M_length 4 car_F_M_length_4_31 = true := by decide +kernel
theorem kra_F_M_length_4_32 : chkA GXo 3000 291 ctr_F_M_length 4 car_F_M_length_4_32 = true := by decide +kernel
theorem kra_F_M_length_4_33 : chkA GXo 3000 291 ctr_F_M_length 4 car_F_M_length_4_33 = true := by decide +kernel
theorem kra_F_M_length_4_34 : chkA GXo 3000 291 ctr_F_M_length 4 car_F_M_length_4_34 = true := by decide +kernel
theorem kra_F_M_length_4_35 : chkA GXo 3000 291 ctr_F_M_length 4 car_F_M_length_4_35 = true := by decide +kernel
theorem kra_F_M_length_4_36 : chkA GXo 3000 291 ctr_F_M_length 4 car_F_M_length_4_36 = true := by decide +kernel
theorem kra_F_M_length_4_37 : chkA GXo 3000 291 ctr_F_M_length 4 car_F_M_length_4_37 = true := by decide +kernel
theorem kra_F_M_length_4_38 : chkA GXo 3000 291 ctr_F_M_length 4 car_F_M_length_4_38 = true := by decide +kernel
theorem kra_F_M_length_4_39 : chkA GXo 3000 291 ctr_F_M_length 4 car_F_M_length_4_39 = true := by decide +kernel
theorem kra_F_M_length_4_40 : chkA GXo 3000 291 ctr_F_M_length 4 car_F_M_length_4_40 = true := by decide +kernel
theorem kra_F_M_length_4_41 : chkA GXo 3000 291 ctr_F_M_length 4 car_F_M_length_4_41 = true := by decide +kernel
theorem kra_F_M_length_4_42 : chkA GXo 3000 291 ctr_F_M_length 4 car_F_M_length_4_42 = true := by decide +kernel
theorem kra_F_M_length_4_43 : chkA GXo 3000 291 ctr_F_M_length 4 car_F_M_length_4_43 = true := by decide +kernel
theorem kra_F_M_length_4_44 : chkA GXo 3000 291 ctr_F_M_length 4 car_F_M_length_4_44 = true := by decide +kernel
theorem kra_F_M_length_4_45 : chkA GXo 3000 291 ctr_F_M_length 4 car_F_M_length_4_45 = true := by decide +kernel
theorem kra_F_M_length_4_46 : chkA GXo 3000 291 ctr_F_M_length 4 car_F_M_length_4_46 = true := by decide +kernel
theorem kra_F_M_length_4_47 : chkA GXo 3000 291 ctr_F_M_length 4 car_F_M_length_4_47 = true := by decide +kernel
theorem kra_F_M_length_4_48 : chkA GXo 3000 291 ctr_F_M_length 4 car_F_M_length_4_48 = true := by decide +kernel
theorem kra_F_M_length_4_49 : chkA GXo 3000 291 ctr_F_M_length 4 car_F_M_length_4_49 = true := by decide +kernel
theorem kra_F_M_length_4_50 : chkA GXo 3000 291 ctr_F_M_length 4 car_F_M_length_4_50 = true := by decide +kernel
theorem kra_F_M_length_4_51 : chkA GXo 3000 291 ctr_F_M_length 4 car_F_M_length_4_51 = true := by decide +kernel
theorem kra_F_M_length_4_52 : chkA GXo 3000 291 ctr_F_M_length 4 car_F_M_length_4_52 = true := by decide +kernel
theorem kra_F_M_length_4_53 : chkA GXo 3000 291 ctr_F_M_length 4 car_F_M_length_4_53 = true := by decide +kernel
theorem kra_F_M_length_4_54 : chkA GXo 3000 291 ctr_F_M_length 4 car_F_M_length_4_54 = true := by decide +kernel
theorem kra_F_M_length_4_55 : chkA GXo 3000 291 ctr_F_M_length 4 car_F_M_length_4_55 = true := by decide +kernel
theorem kra_F_M_length_4_56 : chkA GXo 3000 291 ctr_F_M_length 4 car_F_M_length_4_56 = true := by decide +kernel
theorem kra_F_M_length_4_57 : chkA GXo 3000 291 ctr_F_M_length 4 car_F_M_length_4_57 = true := by decide +kernel
theorem kra_F_M_length_4_58 : chkA GXo 3000 291 ctr_F_M_length 4 car_F_M_length_4_58 = true := by decide +kernel
theorem kra_F_M_length_4_59 : chkA GXo 3000 291 ctr_F_M_length 4 car_F_M_length_4_59 = true := by decide +kernel
theorem kra_F_M_length_4_60 : chkA GXo 3000 291 ctr_F_M_length 4 car_F_M_length_4_60 = true := by decide +kernel
theorem kra_F_M_length_4_61 : chkA GXo 3000 291 ctr_F_M_length 4 car_F_M_length_4_61 = true := by decide +kernel
theorem kra_F_M_length_4_62 : chkA GXo 3000 291 ctr_F_M_length 4 car_F_M_length_4_62 = true := by decide +kernel
theorem kra_F_M_length_4_63 : chkA GXo 3000 291 ctr_F_M_length 4 car_F_M_length_4_63 = true := by decide +kernel
theorem kra_F_M_length_4_64 : chkA GXo 3000 291 ctr_F_M_length 4 car_F_M_length_4_64 = true := by decide +kernel
theorem kra_F_M_length_4_65 : chkA GXo 3000 291 ctr_F_M_length 4 car_F_M_length_4_65 = true := by decide +kernel
theorem kr_F_M_length : Chk GXo 3000 291 ctr_F_M_length := ⟨kre_F_M_length, fun pc as h => (show BT.AllP (fun pc as => ∀ a ∈ as, chkA GXo 3000 291 ctr_F_M_length pc a = true) ctr_F_M_length.cut from ⟨⟨List.forall_mem_cons.mpr ⟨kra_F_M_length_4_0, List.forall_mem_cons.mpr ⟨kra_F_M_length_4_1, List.forall_mem_cons.mpr ⟨kra_F_M_length_4_2, List.forall_mem_cons.mpr ⟨kra_F_M_length_4_3, List.forall_mem_cons.mpr ⟨kra_F_M_length_4_4, List.forall_mem_cons.mpr ⟨kra_F_M_length_4_5, List.forall_mem_cons.mpr ⟨kra_F_M_length_4_6, List.forall_mem_cons.mpr ⟨kra_F_M_length_4_7, List.forall_mem_cons.mpr ⟨kra_F_M_length_4_8, List.forall_mem_cons.mpr ⟨kra_F_M_length_4_9, List.forall_mem_cons.mpr ⟨kra_F_M_length_4_10, List.forall_mem_cons.mpr ⟨kra_F_M_length_4_11, List.forall_mem_cons.mpr ⟨kra_F_M_length_4_12, List.forall_mem_cons.mpr ⟨kra_F_M_length_4_13, List.forall_mem_cons.mpr ⟨kra_F_M_length_4_14, List.forall_mem_cons.mpr ⟨kra_F_M_length_4_15, List.forall_mem_cons.mpr ⟨kra_F_M_length_4_16, List.forall_mem_cons.mpr ⟨kra_F_M_length_4_17, List.forall_mem_cons.mpr ⟨kra_F_M_length_4_18, List.forall_mem_cons.mpr ⟨kra_F_M_length_4_19, List.forall_mem_cons.mpr ⟨kra_F_M_length_4_20, List.forall_mem_cons.mpr ⟨kra_F_M_length_4_21, List.forall_mem_cons.mpr ⟨kra_F_M_length_4_22, List.forall_mem_cons.mpr ⟨kra_F_M_length_4_23, List.forall_mem_cons.mpr ⟨kra_F_M_length_4_24, List.forall_mem_cons.mpr ⟨kra_F_M_length_4_25, List.forall_mem_cons.mpr ⟨kra_F_M_length_4_26, List.forall_mem_cons.mpr ⟨kra_F_M_length_4_27, List.forall_mem_cons.mpr ⟨kra_F_M_length_4_28, List.forall_mem_cons.mpr ⟨kra_F_M_length_4_29, List.forall_mem_cons.mpr ⟨kra_F_M_length_4_30, List.forall_mem_cons.mpr ⟨kra_F_M_length_4_31, List.forall_mem_cons.mpr ⟨kra_F_M_length_4_32, List.forall_mem_cons.mpr ⟨kra_F_M_length_4_33, List.forall_mem_cons.mpr ⟨kra_F_M_length_4_34, List.forall_mem_cons.mpr ⟨kra_F_M_length_4_35, List.forall_mem_cons.mpr ⟨kra_F_M_length_4_36, List.forall_mem_cons.mpr ⟨kra_F_M_length_4_37, List.forall_mem_cons.mpr ⟨kra_F_M_length_4_38, List.forall_mem_cons.mpr ⟨kra_F_M_length_4_39, List.forall_mem_cons.mpr ⟨kra_F_M_length_4_40, List.forall_mem_cons.mpr ⟨kra_F_M_length_4_41, List.forall_mem_cons.mpr ⟨kra_F_M_length_4_42, List.forall_mem_cons.mpr ⟨kra_F_M_length_4_43, List.forall_mem_cons.mpr ⟨kra_F_M_length_4_44, List.forall_mem_cons.mpr ⟨kra_F_M_length_4_45, List.forall_mem_cons.mpr ⟨kra_F_M_length_4_46, List.forall_mem_cons.mpr ⟨kra_F_M_length_4_47, List.forall_mem_cons.mpr ⟨kra_F_M_length_4_48, List.forall_mem_cons.mpr ⟨kra_F_M_length_4_49, List.forall_mem_cons.mpr ⟨kra_F_M_length_4_50, List.forall_mem_cons.mpr ⟨kra_F_M_length_4_51, List.forall_mem_cons.mpr ⟨kra_F_M_length_4_52, List.forall_mem_cons.mpr ⟨kra_F_M_length_4_53, List.forall_mem_cons.mpr ⟨kra_F_M_length_4_54, List.forall_mem_cons.mpr ⟨kra_F_M_length_4_55, List.forall_mem_cons.mpr ⟨kra_F_M_length_4_56, List.forall_mem_cons.mpr ⟨kra_F_M_length_4_57, List.forall_mem_cons.mpr ⟨kra_F_M_length_4_58, List.forall_mem_cons.mpr ⟨kra_F_M_length_4_59, List.forall_mem_cons.mpr ⟨kra_F_M_length_4_60, List.forall_mem_cons.mpr ⟨kra_F_M_length_4_61, List.forall_mem_cons.mpr ⟨kra_F_M_length_4_62, List.forall_mem_cons.mpr ⟨kra_F_M_length_4_63, List.forall_mem_cons.mpr ⟨kra_F_M_length_4_64, List.forall_mem_cons.mpr ⟨kra_F_M_length_4_65, fun a ha => by cases ha⟩⟩⟩⟩⟩⟩⟩⟩⟩⟩⟩⟩⟩⟩⟩⟩⟩⟩⟩⟩⟩⟩⟩⟩⟩⟩⟩⟩⟩⟩⟩⟩⟩⟩⟩⟩⟩⟩⟩⟩⟩⟩⟩⟩⟩⟩⟩⟩⟩⟩⟩⟩⟩⟩⟩⟩⟩⟩⟩⟩⟩⟩⟩⟩⟩⟩, trivial⟩, trivial⟩).at h⟩
theorem kre_F_M_pack : chkE GXo 3000 293 ctr_F_M_pack = true := by decide +kernel
