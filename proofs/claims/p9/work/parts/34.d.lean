theorem k2_put_5 : chk2 GX pc_put DH 3000 a2_put_5 = true := by decide +kernel
theorem k2_put_6 : chk2 GX pc_put DH 3000 a2_put_6 = true := by decide +kernel
theorem k2_put_7 : chk2 GX pc_put DH 3000 a2_put_7 = true := by decide +kernel
theorem k2_put_8 : chk2 GX pc_put DH 3000 a2_put_8 = true := by decide +kernel
theorem k2_put_9 : chk2 GX pc_put DH 3000 a2_put_9 = true := by decide +kernel
theorem k2_put_10 : chk2 GX pc_put DH 3000 a2_put_10 = true := by decide +kernel
theorem k2_put_11 : chk2 GX pc_put DH 3000 a2_put_11 = true := by decide +kernel
theorem k2_back_r : chk2 GX pc_back DH 3000 r2_back = true := by decide +kernel
theorem ks_Wh_groupsOf0_r : chk1E GX DH 3000 21 sct_Wh_groupsOf0 sw_Wh_groupsOf0 shn_Wh_groupsOf0 slb_Wh_groupsOf0 [] san_Wh_groupsOf0 100000 = true := by decide +kernel
theorem ks_Wh_groupsOf0_0 : chk1A GX DH 3000 sct_Wh_groupsOf0 sw_Wh_groupsOf0 shn_Wh_groupsOf0 slb_Wh_groupsOf0 [] san_Wh_groupsOf0 a1_Wh_groupsOf0_0 = true := by decide +kernel
theorem ks_Wh_groupsOf0_1 : chk1A GX DH 3000 sct_Wh_groupsOf0 sw_Wh_groupsOf0 shn_Wh_groupsOf0 slb_Wh_groupsOf0 [] san_Wh_groupsOf0 a1_Wh_groupsOf0_1 = true := by decide +kernel
theorem ks_Wh_groupsOf0_2 : chk1A GX DH 3000 sct_Wh_groupsOf0 sw_Wh_groupsOf0 shn_Wh_groupsOf0 slb_Wh_groupsOf0 [] san_Wh_groupsOf0 a1_Wh_groupsOf0_2 = true := by decide +kernel
theorem ks_Wh_groupsOf0_3 : chk1A GX DH 3000 sct_Wh_groupsOf0 sw_Wh_groupsOf0 shn_Wh_groupsOf0 slb_Wh_groupsOf0 [] san_Wh_groupsOf0 a1_Wh_groupsOf0_3 = true := by decide +kernel
theorem ks_M_reaches0_r : chk1E GX (dN DH) 3000 318 sct_M_reaches0 sw_M_reaches0 shn_M_reaches0 slb_M_reaches0 [] san_M_reaches0 100000 = true := by decide +kernel
theorem ks_M_reaches0_0 : chk1A GX (dN DH) 3000 sct_M_reaches0 sw_M_reaches0 shn_M_reaches0 slb_M_reaches0 [] san_M_reaches0 a1_M_reaches0_0 = true := by decide +kernel
theorem ks_M_reaches0_1 : chk1A GX (dN DH) 3000 sct_M_reaches0 sw_M_reaches0 shn_M_reaches0 slb_M_reaches0 [] san_M_reaches0 a1_M_reaches0_1 = true := by decide +kernel
theorem ks_M_reaches0_2 : chk1A GX (dN DH) 3000 sct_M_reaches0 sw_M_reaches0 shn_M_reaches0 slb_M_reaches0 [] san_M_reaches0 a1_M_reaches0_2 = true := by decide +kernel
theorem ks_M_reaches0_3 : chk1A GX (dN DH) 3000 sct_M_reaches0 sw_M_reaches0 shn_M_reaches0 slb_M_reaches0 [] san_M_reaches0 a1_M_reaches0_3 = true := by decide +kernel
theorem ks_M_reaches0_4 : chk1A GX (dN DH) 3000 sct_M_reaches0 sw_M_reaches0 shn_M_reaches0 slb_M_reaches0 [] san_M_reaches0 a1_M_reaches0_4 = true := by decide +kernel
theorem ks_M_reaches0_5 : chk1A GX (dN DH) 3000 sct_M_reaches0 sw_M_reaches0 shn_M_reaches0 slb_M_reaches0 [] san_M_reaches0 a1_M_reaches0_5 = true := by decide +kernel
theorem k2_belongs_r : chk2 GX pc_belongs DH 3000 r2_belongs = true := by decide +kernel
