theorem k2_law_r : chk2 GX pc_law DH 3000 r2_law = true := by decide +kernel
theorem ks_Wh_groupsOf0_r : chk1E GX DH 3000 21 sct_Wh_groupsOf0 sw_Wh_groupsOf0 shn_Wh_groupsOf0 slb_Wh_groupsOf0 [] san_Wh_groupsOf0 100000 = true := by decide +kernel
theorem ks_Wh_groupsOf0_0 : chk1A GX DH 3000 sct_Wh_groupsOf0 sw_Wh_groupsOf0 shn_Wh_groupsOf0 slb_Wh_groupsOf0 [] san_Wh_groupsOf0 a1_Wh_groupsOf0_0 = true := by decide +kernel
theorem ks_Wh_groupsOf0_1 : chk1A GX DH 3000 sct_Wh_groupsOf0 sw_Wh_groupsOf0 shn_Wh_groupsOf0 slb_Wh_groupsOf0 [] san_Wh_groupsOf0 a1_Wh_groupsOf0_1 = true := by decide +kernel
theorem ks_Wh_groupsOf0_2 : chk1A GX DH 3000 sct_Wh_groupsOf0 sw_Wh_groupsOf0 shn_Wh_groupsOf0 slb_Wh_groupsOf0 [] san_Wh_groupsOf0 a1_Wh_groupsOf0_2 = true := by decide +kernel
theorem ks_Wh_groupsOf0_3 : chk1A GX DH 3000 sct_Wh_groupsOf0 sw_Wh_groupsOf0 shn_Wh_groupsOf0 slb_Wh_groupsOf0 [] san_Wh_groupsOf0 a1_Wh_groupsOf0_3 = true := by decide +kernel
theorem ks_Wh_groupsOf1_r : chk1E GX DH 3000 21 sct_Wh_groupsOf1 sw_Wh_groupsOf1 shn_Wh_groupsOf0 slb_Wh_groupsOf1 [] san_Wh_groupsOf1 100000 = true := by decide +kernel
theorem ks_Wh_groupsOf1_0 : chk1A GX DH 3000 sct_Wh_groupsOf1 sw_Wh_groupsOf1 shn_Wh_groupsOf0 slb_Wh_groupsOf1 [] san_Wh_groupsOf1 a1_Wh_groupsOf1_0 = true := by decide +kernel
theorem ks_Wh_groupsOf1_1 : chk1A GX DH 3000 sct_Wh_groupsOf1 sw_Wh_groupsOf1 shn_Wh_groupsOf0 slb_Wh_groupsOf1 [] san_Wh_groupsOf1 a1_Wh_groupsOf1_1 = true := by decide +kernel
