theorem ka_Po_read_40_0 : chkA GX 3000 104 ct_Po_read 40 ca_Po_read_40_0 = true := by decide +kernel
theorem kk_Po_read : Chk GX 3000 104 ct_Po_read := ⟨ke_Po_read, fun pc as h => (show BT.AllP (fun pc as => ∀ a ∈ as, chkA GX 3000 104 ct_Po_read pc a = true) ct_Po_read.cut from ⟨⟨List.forall_mem_cons.mpr ⟨ka_Po_read_40_0, fun a ha => by cases ha⟩, trivial⟩, trivial⟩).at h⟩
theorem ke_H_policy : chkE GX 3000 105 ct_H_policy = true := by decide +kernel
theorem kk_H_policy : Chk GX 3000 105 ct_H_policy := ⟨ke_H_policy, fun pc as h => (show BT.AllP (fun pc as => ∀ a ∈ as, chkA GX 3000 105 ct_H_policy pc a = true) ct_H_policy.cut from trivial).at h⟩
theorem ke_H_rules : chkE GX 3000 106 ct_H_rules = true := by decide +kernel
theorem kk_H_rules : Chk GX 3000 106 ct_H_rules := ⟨ke_H_rules, fun pc as h => (show BT.AllP (fun pc as => ∀ a ∈ as, chkA GX 3000 106 ct_H_rules pc a = true) ct_H_rules.cut from trivial).at h⟩
theorem ke_H_sumBehind : chkE GX 3000 108 ct_H_sumBehind = true := by decide +kernel
theorem ka_H_sumBehind_5_0 : chkA GX 3000 108 ct_H_sumBehind 5 ca_H_sumBehind_5_0 = true := by decide +kernel
theorem kk_H_sumBehind : Chk GX 3000 108 ct_H_sumBehind := ⟨ke_H_sumBehind, fun pc as h => (show BT.AllP (fun pc as => ∀ a ∈ as, chkA GX 3000 108 ct_H_sumBehind pc a = true) ct_H_sumBehind.cut from ⟨⟨List.forall_mem_cons.mpr ⟨ka_H_sumBehind_5_0, fun a ha => by cases ha⟩, trivial⟩, trivial⟩).at h⟩
theorem ke_H_writeLog : chkE GX 3000 109 ct_H_writeLog = true := by decide +kernel
theorem kk_H_writeLog : Chk GX 3000 109 ct_H_writeLog := ⟨ke_H_writeLog, fun pc as h => (show BT.AllP (fun pc as => ∀ a ∈ as, chkA GX 3000 109 ct_H_writeLog pc a = true) ct_H_writeLog.cut from trivial).at h⟩
theorem ke_H_inForce : chkE GX 3000 110 ct_H_inForce = true := by decide +kernel
theorem kk_H_inForce : Chk GX 3000 110 ct_H_inForce := ⟨ke_H_inForce, fun pc as h => (show BT.AllP (fun pc as => ∀ a ∈ as, chkA GX 3000 110 ct_H_inForce pc a = true) ct_H_inForce.cut from trivial).at h⟩
theorem ke_H_policyInForce : chkE GX 3000 111 ct_H_policyInForce = true := by decide +kernel
theorem ka_H_policyInForce_7_0 : chkA GX 3000 111 ct_H_policyInForce 7 ca_H_policyInForce_7_0 = true := by decide +kernel
theorem kk_H_policyInForce : Chk GX 3000 111 ct_H_policyInForce := ⟨ke_H_policyInForce, fun pc as h => (show BT.AllP (fun pc as => ∀ a ∈ as, chkA GX 3000 111 ct_H_policyInForce pc a = true) ct_H_policyInForce.cut from ⟨⟨List.forall_mem_cons.mpr ⟨ka_H_policyInForce_7_0, fun a ha => by cases ha⟩, trivial⟩, trivial⟩).at h⟩
theorem ke_Ju_fitsThing : chkE GX 3000 117 ct_Ju_fitsThing = true := by decide +kernel
theorem kk_Ju_fitsThing : Chk GX 3000 117 ct_Ju_fitsThing := ⟨ke_Ju_fitsThing, fun pc as h => (show BT.AllP (fun pc as => ∀ a ∈ as, chkA GX 3000 117 ct_Ju_fitsThing pc a = true) ct_Ju_fitsThing.cut from trivial).at h⟩
theorem ke_Re_plus : chkE GX 3000 128 ct_Re_plus = true := by decide +kernel
theorem ka_Re_plus_14_0 : chkA GX 3000 128 ct_Re_plus 14 ca_Re_plus_14_0 = true := by decide +kernel
theorem ka_Re_plus_44_0 : chkA GX 3000 128 ct_Re_plus 44 ca_Re_plus_44_0 = true := by decide +kernel
theorem ka_Re_plus_45_0 : chkA GX 3000 128 ct_Re_plus 45 ca_Re_plus_45_0 = true := by decide +kernel
theorem ka_Re_plus_71_0 : chkA GX 3000 128 ct_Re_plus 71 ca_Re_plus_71_0 = true := by decide +kernel
theorem ka_Re_plus_89_0 : chkA GX 3000 128 ct_Re_plus 89 ca_Re_plus_89_0 = true := by decide +kernel
theorem ka_Re_plus_143_0 : chkA GX 3000 128 ct_Re_plus 143 ca_Re_plus_143_0 = true := by decide +kernel
theorem ka_Re_plus_181_0 : chkA GX 3000 128 ct_Re_plus 181 ca_Re_plus_181_0 = true := by decide +kernel
theorem ka_Re_plus_185_0 : chkA GX 3000 128 ct_Re_plus 185 ca_Re_plus_185_0 = true := by decide +kernel
theorem ka_Re_plus_200_0 : chkA GX 3000 128 ct_Re_plus 200 ca_Re_plus_200_0 = true := by decide +kernel
theorem ka_Re_plus_215_0 : chkA GX 3000 128 ct_Re_plus 215 ca_Re_plus_215_0 = true := by decide +kernel
theorem ka_Re_plus_274_0 : chkA GX 3000 128 ct_Re_plus 274 ca_Re_plus_274_0 = true := by decide +kernel
theorem kk_Re_plus : Chk GX 3000 128 ct_Re_plus := ⟨ke_Re_plus, fun pc as h => (show BT.AllP (fun pc as => ∀ a ∈ as, chkA GX 3000 128 ct_Re_plus pc a = true) ct_Re_plus.cut from ⟨⟨List.forall_mem_cons.mpr ⟨ka_Re_plus_14_0, fun a ha => by cases ha⟩, List.forall_mem_cons.mpr ⟨ka_Re_plus_44_0, fun a ha => by cases ha⟩, List.forall_mem_cons.mpr ⟨ka_Re_plus_45_0, fun a ha => by cases ha⟩, trivial⟩, ⟨List.forall_mem_cons.mpr ⟨ka_Re_plus_71_0, fun a ha => by cases ha⟩, List.forall_mem_cons.mpr ⟨ka_Re_plus_89_0, fun a ha => by cases ha⟩, List.forall_mem_cons.mpr ⟨ka_Re_plus_143_0, fun a ha => by cases ha⟩, trivial⟩, ⟨List.forall_mem_cons.mpr ⟨ka_Re_plus_181_0, fun a ha => by cases ha⟩, List.forall_mem_cons.mpr ⟨ka_Re_plus_185_0, fun a ha => by cases ha⟩, List.forall_mem_cons.mpr ⟨ka_Re_plus_200_0, fun a ha => by cases ha⟩, trivial⟩, ⟨List.forall_mem_cons.mpr ⟨ka_Re_plus_215_0, fun a ha => by cases ha⟩, List.forall_mem_cons.mpr ⟨ka_Re_plus_274_0, fun a ha => by cases ha⟩, trivial⟩, trivial⟩).at h⟩
theorem ke_Re_times : chkE GX 3000 129 ct_Re_times = true := by decide +kernel
theorem ka_Re_times_55_0 : chkA GX 3000 129 ct_Re_times 55 ca_Re_times_55_0 = true := by decide +kernel
theorem ka_Re_times_90_0 : chkA GX 3000 129 ct_Re_times 90 ca_Re_times_90_0 = true := by decide +kernel
theorem ka_Re_times_244_0 : chkA GX 3000 129 ct_Re_times 244 ca_Re_times_244_0 = true := by decide +kernel
theorem kk_Re_times : Chk GX 3000 129 ct_Re_times := ⟨ke_Re_times, fun pc as h => (show BT.AllP (fun pc as => ∀ a ∈ as, chkA GX 3000 129 ct_Re_times pc a = true) ct_Re_times.cut from ⟨⟨List.forall_mem_cons.mpr ⟨ka_Re_times_55_0, fun a ha => by cases ha⟩, trivial⟩, ⟨List.forall_mem_cons.mpr ⟨ka_Re_times_90_0, fun a ha => by cases ha⟩, trivial⟩, ⟨List.forall_mem_cons.mpr ⟨ka_Re_times_244_0, fun a ha => by cases ha⟩, trivial⟩, trivial⟩).at h⟩
theorem ke_Re_rest : chkE GX 3000 130 ct_Re_rest = true := by decide +kernel
theorem ka_Re_rest_86_0 : chkA GX 3000 130 ct_Re_rest 86 ca_Re_rest_86_0 = true := by decide +kernel
theorem kk_Re_rest : Chk GX 3000 130 ct_Re_rest := ⟨ke_Re_rest, fun pc as h => (show BT.AllP (fun pc as => ∀ a ∈ as, chkA GX 3000 130 ct_Re_rest pc a = true) ct_Re_rest.cut from ⟨⟨List.forall_mem_cons.mpr ⟨ka_Re_rest_86_0, fun a ha => by cases ha⟩, trivial⟩, trivial⟩).at h⟩
theorem ke_Ju_calculate : chkE GX 3000 131 ct_Ju_calculate = true := by decide +kernel
theorem kk_Ju_calculate : Chk GX 3000 131 ct_Ju_calculate := ⟨ke_Ju_calculate, fun pc as h => (show BT.AllP (fun pc as => ∀ a ∈ as, chkA GX 3000 131 ct_Ju_calculate pc a = true) ct_Ju_calculate.cut from trivial).at h⟩
theorem ke_Wh_hasMark : chkE GX 3000 132 ct_Wh_hasMark = true := by decide +kernel
theorem ka_Wh_hasMark_3_0 : chkA GX 3000 132 ct_Wh_hasMark 3 ca_Wh_hasMark_3_0 = true := by decide +kernel
theorem kk_Wh_hasMark : Chk GX 3000 132 ct_Wh_hasMark := ⟨ke_Wh_hasMark, fun pc as h => (show BT.AllP (fun pc as => ∀ a ∈ as, chkA GX 3000 132 ct_Wh_hasMark pc a = true) ct_Wh_hasMark.cut from ⟨⟨List.forall_mem_cons.mpr ⟨ka_Wh_hasMark_3_0, fun a ha => by cases ha⟩, trivial⟩, trivial⟩).at h⟩
theorem ke_Ju_weigh : chkE GX 3000 137 ct_Ju_weigh = true := by decide +kernel
