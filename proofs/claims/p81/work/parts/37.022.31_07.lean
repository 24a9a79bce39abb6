theorem ka_Po_read_40_0 : chkA GXL9 3000 104 ct_Po_readL9 40 ca_Po_read_40_0 = true := by decide +kernel
theorem kk_Po_read : Chk GXL9 3000 104 ct_Po_readL9 := ⟨ke_Po_read, fun pc as h => (show BT.AllP (fun pc as => ∀ a ∈ as, chkA GXL9 3000 104 ct_Po_readL9 pc a = true) ct_Po_readL9.cut from ⟨⟨List.forall_mem_cons.mpr ⟨ka_Po_read_40_0, fun a ha => by cases ha⟩, trivial⟩, trivial⟩).at h⟩
theorem ke_H_policy : chkE GXL9 3000 105 ct_H_policy = true := by decide +kernel
theorem kk_H_policy : Chk GXL9 3000 105 ct_H_policy := ⟨ke_H_policy, fun pc as h => (show BT.AllP (fun pc as => ∀ a ∈ as, chkA GXL9 3000 105 ct_H_policy pc a = true) ct_H_policy.cut from trivial).at h⟩
theorem ke_H_rulesL9 : chkE GXL9 3000 106 ct_H_rules = true := by decide +kernel
theorem kk_H_rulesL9 : Chk GXL9 3000 106 ct_H_rules := ⟨ke_H_rulesL9, fun pc as h => (show BT.AllP (fun pc as => ∀ a ∈ as, chkA GXL9 3000 106 ct_H_rules pc a = true) ct_H_rules.cut from trivial).at h⟩
theorem ke_H_sumBehindL9 : chkE GXL9 3000 108 ct_H_sumBehindL9 = true := by decide +kernel
theorem ka_H_sumBehind_5_0L9 : chkA GXL9 3000 108 ct_H_sumBehindL9 5 ca_H_sumBehind_5_0L9 = true := by decide +kernel
theorem kk_H_sumBehindL9 : Chk GXL9 3000 108 ct_H_sumBehindL9 := ⟨ke_H_sumBehindL9, fun pc as h => (show BT.AllP (fun pc as => ∀ a ∈ as, chkA GXL9 3000 108 ct_H_sumBehindL9 pc a = true) ct_H_sumBehindL9.cut from ⟨⟨List.forall_mem_cons.mpr ⟨ka_H_sumBehind_5_0L9, fun a ha => by cases ha⟩, trivial⟩, trivial⟩).at h⟩
theorem ke_H_writeLogL9 : chkE GXL9 3000 109 ct_H_writeLogL9 = true := by decide +kernel
theorem kk_H_writeLogL9 : Chk GXL9 3000 109 ct_H_writeLogL9 := ⟨ke_H_writeLogL9, fun pc as h => (show BT.AllP (fun pc as => ∀ a ∈ as, chkA GXL9 3000 109 ct_H_writeLogL9 pc a = true) ct_H_writeLogL9.cut from trivial).at h⟩
theorem ke_H_inForce : chkE GXL9 3000 110 ct_H_inForce = true := by decide +kernel
theorem kk_H_inForce : Chk GXL9 3000 110 ct_H_inForce := ⟨ke_H_inForce, fun pc as h => (show BT.AllP (fun pc as => ∀ a ∈ as, chkA GXL9 3000 110 ct_H_inForce pc a = true) ct_H_inForce.cut from trivial).at h⟩
theorem ke_H_policyInForceL9 : chkE GXL9 3000 111 ct_H_policyInForceL9 = true := by decide +kernel
theorem ka_H_policyInForce_7_0L9 : chkA GXL9 3000 111 ct_H_policyInForceL9 7 ca_H_policyInForce_7_0 = true := by decide +kernel
theorem kk_H_policyInForceL9 : Chk GXL9 3000 111 ct_H_policyInForceL9 := ⟨ke_H_policyInForceL9, fun pc as h => (show BT.AllP (fun pc as => ∀ a ∈ as, chkA GXL9 3000 111 ct_H_policyInForceL9 pc a = true) ct_H_policyInForceL9.cut from ⟨⟨List.forall_mem_cons.mpr ⟨ka_H_policyInForce_7_0L9, fun a ha => by cases ha⟩, trivial⟩, trivial⟩).at h⟩
theorem ke_Ju_fitsThingL9 : chkE GXL9 3000 117 ct_Ju_fitsThingL9 = true := by decide +kernel
theorem kk_Ju_fitsThingL9 : Chk GXL9 3000 117 ct_Ju_fitsThingL9 := ⟨ke_Ju_fitsThingL9, fun pc as h => (show BT.AllP (fun pc as => ∀ a ∈ as, chkA GXL9 3000 117 ct_Ju_fitsThingL9 pc a = true) ct_Ju_fitsThingL9.cut from trivial).at h⟩
theorem ke_Re_plusL9 : chkE GXL9 3000 128 ct_Re_plusL9 = true := by decide +kernel
theorem ka_Re_plus_14_0L9 : chkA GXL9 3000 128 ct_Re_plusL9 14 ca_Re_plus_14_0L9 = true := by decide +kernel
theorem ka_Re_plus_44_0L9 : chkA GXL9 3000 128 ct_Re_plusL9 44 ca_Re_plus_44_0L9 = true := by decide +kernel
theorem ka_Re_plus_45_0L9 : chkA GXL9 3000 128 ct_Re_plusL9 45 ca_Re_plus_45_0L9 = true := by decide +kernel
theorem ka_Re_plus_71_0L9 : chkA GXL9 3000 128 ct_Re_plusL9 71 ca_Re_plus_71_0L9 = true := by decide +kernel
theorem ka_Re_plus_89_0L9 : chkA GXL9 3000 128 ct_Re_plusL9 89 ca_Re_plus_89_0L9 = true := by decide +kernel
theorem ka_Re_plus_143_0L9 : chkA GXL9 3000 128 ct_Re_plusL9 143 ca_Re_plus_143_0L9 = true := by decide +kernel
theorem ka_Re_plus_181_0L9 : chkA GXL9 3000 128 ct_Re_plusL9 181 ca_Re_plus_181_0L9 = true := by decide +kernel
theorem ka_Re_plus_185_0L9 : chkA GXL9 3000 128 ct_Re_plusL9 185 ca_Re_plus_185_0L9 = true := by decide +kernel
theorem ka_Re_plus_200_0L9 : chkA GXL9 3000 128 ct_Re_plusL9 200 ca_Re_plus_200_0L9 = true := by decide +kernel
theorem ka_Re_plus_215_0L9 : chkA GXL9 3000 128 ct_Re_plusL9 215 ca_Re_plus_215_0L9 = true := by decide +kernel
theorem ka_Re_plus_274_0L9 : chkA GXL9 3000 128 ct_Re_plusL9 274 ca_Re_plus_274_0L9 = true := by decide +kernel
theorem kk_Re_plusL9 : Chk GXL9 3000 128 ct_Re_plusL9 := ⟨ke_Re_plusL9, fun pc as h => (show BT.AllP (fun pc as => ∀ a ∈ as, chkA GXL9 3000 128 ct_Re_plusL9 pc a = true) ct_Re_plusL9.cut from ⟨⟨List.forall_mem_cons.mpr ⟨ka_Re_plus_14_0L9, fun a ha => by cases ha⟩, List.forall_mem_cons.mpr ⟨ka_Re_plus_44_0L9, fun a ha => by cases ha⟩, List.forall_mem_cons.mpr ⟨ka_Re_plus_45_0L9, fun a ha => by cases ha⟩, trivial⟩, ⟨List.forall_mem_cons.mpr ⟨ka_Re_plus_71_0L9, fun a ha => by cases ha⟩, List.forall_mem_cons.mpr ⟨ka_Re_plus_89_0L9, fun a ha => by cases ha⟩, List.forall_mem_cons.mpr ⟨ka_Re_plus_143_0L9, fun a ha => by cases ha⟩, trivial⟩, ⟨List.forall_mem_cons.mpr ⟨ka_Re_plus_181_0L9, fun a ha => by cases ha⟩, List.forall_mem_cons.mpr ⟨ka_Re_plus_185_0L9, fun a ha => by cases ha⟩, List.forall_mem_cons.mpr ⟨ka_Re_plus_200_0L9, fun a ha => by cases ha⟩, trivial⟩, ⟨List.forall_mem_cons.mpr ⟨ka_Re_plus_215_0L9, fun a ha => by cases ha⟩, List.forall_mem_cons.mpr ⟨ka_Re_plus_274_0L9, fun a ha => by cases ha⟩, trivial⟩, trivial⟩).at h⟩
theorem ke_Re_timesL9 : chkE GXL9 3000 129 ct_Re_timesL9 = true := by decide +kernel
theorem ka_Re_times_55_0L9 : chkA GXL9 3000 129 ct_Re_timesL9 55 ca_Re_times_55_0L9 = true := by decide +kernel
theorem ka_Re_times_90_0L9 : chkA GXL9 3000 129 ct_Re_timesL9 90 ca_Re_times_90_0L9 = true := by decide +kernel
theorem ka_Re_times_244_0L9 : chkA GXL9 3000 129 ct_Re_timesL9 244 ca_Re_times_244_0L9 = true := by decide +kernel
theorem kk_Re_timesL9 : Chk GXL9 3000 129 ct_Re_timesL9 := ⟨ke_Re_timesL9, fun pc as h => (show BT.AllP (fun pc as => ∀ a ∈ as, chkA GXL9 3000 129 ct_Re_timesL9 pc a = true) ct_Re_timesL9.cut from ⟨⟨List.forall_mem_cons.mpr ⟨ka_Re_times_55_0L9, fun a ha => by cases ha⟩, trivial⟩, ⟨List.forall_mem_cons.mpr ⟨ka_Re_times_90_0L9, fun a ha => by cases ha⟩, trivial⟩, ⟨List.forall_mem_cons.mpr ⟨ka_Re_times_244_0L9, fun a ha => by cases ha⟩, trivial⟩, trivial⟩).at h⟩
theorem ke_Re_restL9 : chkE GXL9 3000 130 ct_Re_restL9 = true := by decide +kernel
theorem ka_Re_rest_86_0L9 : chkA GXL9 3000 130 ct_Re_restL9 86 ca_Re_rest_86_0L9 = true := by decide +kernel
theorem kk_Re_restL9 : Chk GXL9 3000 130 ct_Re_restL9 := ⟨ke_Re_restL9, fun pc as h => (show BT.AllP (fun pc as => ∀ a ∈ as, chkA GXL9 3000 130 ct_Re_restL9 pc a = true) ct_Re_restL9.cut from ⟨⟨List.forall_mem_cons.mpr ⟨ka_Re_rest_86_0L9, fun a ha => by cases ha⟩, trivial⟩, trivial⟩).at h⟩
theorem ke_Ju_calculateL9 : chkE GXL9 3000 131 ct_Ju_calculateL9 = true := by decide +kernel
theorem kk_Ju_calculateL9 : Chk GXL9 3000 131 ct_Ju_calculateL9 := ⟨ke_Ju_calculateL9, fun pc as h => (show BT.AllP (fun pc as => ∀ a ∈ as, chkA GXL9 3000 131 ct_Ju_calculateL9 pc a = true) ct_Ju_calculateL9.cut from trivial).at h⟩
theorem ke_Wh_hasMarkL9 : chkE GXL9 3000 132 ct_Wh_hasMarkL9 = true := by decide +kernel
theorem ka_Wh_hasMark_3_0L9 : chkA GXL9 3000 132 ct_Wh_hasMarkL9 3 ca_Wh_hasMark_3_0L9 = true := by decide +kernel
theorem kk_Wh_hasMarkL9 : Chk GXL9 3000 132 ct_Wh_hasMarkL9 := ⟨ke_Wh_hasMarkL9, fun pc as h => (show BT.AllP (fun pc as => ∀ a ∈ as, chkA GXL9 3000 132 ct_Wh_hasMarkL9 pc a = true) ct_Wh_hasMarkL9.cut from ⟨⟨List.forall_mem_cons.mpr ⟨ka_Wh_hasMark_3_0L9, fun a ha => by cases ha⟩, trivial⟩, trivial⟩).at h⟩
theorem ke_Ju_weighL9 : chkE GXL9 3000 137 ct_Ju_weigh = true := by decide +kernel
