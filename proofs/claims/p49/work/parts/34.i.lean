theorem k2_tie_r : chk2 GX pc_tie DH 3000 r2_tie = true := by decide +kernel
theorem ks_Wh_groupsOf2_r : chk1E GX DH 3000 21 sct_Wh_groupsOf2 sw_Wh_groupsOf2 shn_Wh_groupsOf0 slb_Wh_groupsOf2 [] san_Wh_groupsOf2 100000 = true := by decide +kernel
theorem ks_Wh_groupsOf2_0 : chk1A GX DH 3000 sct_Wh_groupsOf2 sw_Wh_groupsOf2 shn_Wh_groupsOf0 slb_Wh_groupsOf2 [] san_Wh_groupsOf2 a1_Wh_groupsOf2_0 = true := by decide +kernel
theorem ks_Wh_groupsOf2_1 : chk1A GX DH 3000 sct_Wh_groupsOf2 sw_Wh_groupsOf2 shn_Wh_groupsOf0 slb_Wh_groupsOf2 [] san_Wh_groupsOf2 a1_Wh_groupsOf2_1 = true := by decide +kernel
theorem ks_Wh_groupsOf2_2 : chk1A GX DH 3000 sct_Wh_groupsOf2 sw_Wh_groupsOf2 shn_Wh_groupsOf0 slb_Wh_groupsOf2 [] san_Wh_groupsOf2 a1_Wh_groupsOf2_2 = true := by decide +kernel
theorem ks_Wh_groupsOf2_3 : chk1A GX DH 3000 sct_Wh_groupsOf2 sw_Wh_groupsOf2 shn_Wh_groupsOf0 slb_Wh_groupsOf2 [] san_Wh_groupsOf2 a1_Wh_groupsOf2_3 = true := by decide +kernel
theorem ks_Wo_prepare0_r : chk1E GX DH 3000 182 sct_Wo_prepare0 sw_Wo_prepare0 shn_Wo_prepare0 slb_Wo_prepare0 sn_Wo_prepare0 san_Wo_prepare0 100000 = true := by decide +kernel
