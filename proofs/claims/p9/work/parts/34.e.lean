theorem k2_law_r : chk2 GX pc_law DH 3000 r2_law = true := by decide +kernel
theorem ks_Wh_groupsOf1_r : chk1E GX DH 3000 21 sct_Wh_groupsOf1 sw_Wh_groupsOf1 shn_Wh_groupsOf0 slb_Wh_groupsOf1 [] san_Wh_groupsOf1 100000 = true := by decide +kernel
theorem ks_Wh_groupsOf1_0 : chk1A GX DH 3000 sct_Wh_groupsOf1 sw_Wh_groupsOf1 shn_Wh_groupsOf0 slb_Wh_groupsOf1 [] san_Wh_groupsOf1 a1_Wh_groupsOf1_0 = true := by decide +kernel
theorem ks_Wh_groupsOf1_1 : chk1A GX DH 3000 sct_Wh_groupsOf1 sw_Wh_groupsOf1 shn_Wh_groupsOf0 slb_Wh_groupsOf1 [] san_Wh_groupsOf1 a1_Wh_groupsOf1_1 = true := by decide +kernel
theorem ks_Wh_groupsOf1_2 : chk1A GX DH 3000 sct_Wh_groupsOf1 sw_Wh_groupsOf1 shn_Wh_groupsOf0 slb_Wh_groupsOf1 [] san_Wh_groupsOf1 a1_Wh_groupsOf1_2 = true := by decide +kernel
theorem ks_Wh_groupsOf1_3 : chk1A GX DH 3000 sct_Wh_groupsOf1 sw_Wh_groupsOf1 shn_Wh_groupsOf0 slb_Wh_groupsOf1 [] san_Wh_groupsOf1 a1_Wh_groupsOf1_3 = true := by decide +kernel
theorem ks_M_reaches1_r : chk1E GX (dN DH) 3000 318 sct_M_reaches1 sw_M_reaches1 shn_M_reaches0 slb_M_reaches1 [] san_M_reaches1 100000 = true := by decide +kernel
theorem ks_M_reaches1_0 : chk1A GX (dN DH) 3000 sct_M_reaches1 sw_M_reaches1 shn_M_reaches0 slb_M_reaches1 [] san_M_reaches1 a1_M_reaches1_0 = true := by decide +kernel
theorem ks_M_reaches1_1 : chk1A GX (dN DH) 3000 sct_M_reaches1 sw_M_reaches1 shn_M_reaches0 slb_M_reaches1 [] san_M_reaches1 a1_M_reaches1_1 = true := by decide +kernel
theorem ks_M_reaches1_2 : chk1A GX (dN DH) 3000 sct_M_reaches1 sw_M_reaches1 shn_M_reaches0 slb_M_reaches1 [] san_M_reaches1 a1_M_reaches1_2 = true := by decide +kernel
