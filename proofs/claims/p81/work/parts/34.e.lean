theorem ks_Wh_groupsOf0_0 : chk1A GX DH 3000 sct_Wh_groupsOf0 sw_Wh_groupsOf0 shn_Wh_groupsOf0 slb_Wh_groupsOf0 [] san_Wh_groupsOf0 a1_Wh_groupsOf0_0 = true := by decide +kernel
theorem ks_Wh_groupsOf0_1 : chk1A GX DH 3000 sct_Wh_groupsOf0 sw_Wh_groupsOf0 shn_Wh_groupsOf0 slb_Wh_groupsOf0 [] san_Wh_groupsOf0 a1_Wh_groupsOf0_1 = true := by decide +kernel
theorem ks_Wh_groupsOf0_2 : chk1A GX DH 3000 sct_Wh_groupsOf0 sw_Wh_groupsOf0 shn_Wh_groupsOf0 slb_Wh_groupsOf0 [] san_Wh_groupsOf0 a1_Wh_groupsOf0_2 = true := by decide +kernel
theorem ks_Wh_groupsOf0_3 : chk1A GX DH 3000 sct_Wh_groupsOf0 sw_Wh_groupsOf0 shn_Wh_groupsOf0 slb_Wh_groupsOf0 [] san_Wh_groupsOf0 a1_Wh_groupsOf0_3 = true := by decide +kernel
theorem ks_M_reaches0_r : chk1E GX (dN DH) 3000 318 sct_M_reaches0 sw_M_reaches0 shn_M_reaches0 slb_M_reaches0 [] san_M_reaches0 100000 = true := by decide +kernel
theorem ks_M_reaches0_0 : chk1A GX (dN DH) 3000 sct_M_reaches0 sw_M_reaches0 shn_M_reaches0 slb_M_reaches0 [] san_M_reaches0 a1_M_reaches0_0 = true := by decide +kernel
theorem ks_M_reaches0_1 : chk1A GX (dN DH) 3000 sct_M_reaches0 sw_M_reaches0 shn_M_reaches0 slb_M_reaches0 [] san_M_reaches0 a1_M_reaches0_1 = true := by decide +kernel
theorem ks_M_reaches0_2 : chk1A GX (dN DH) 3000 sct_M_reaches0 sw_M_reaches0 shn_M_reaches0 slb_M_reaches0 [] san_M_reaches0 a1_M_reaches0_2 = true := by decide +kernel
theorem ks_M_reaches0_3 : chk1A GX (dN DH) 3000 sct_M_reaches0 sw_M_reaches0 shn_M_reaches0 slb_M_reaches0 [] san_M_reaches0 a1_M_reaches0_3 = true := by decide +kernel
theorem ks_M_reaches0_4 : chk1A GX (dN DH) 3000 sct_M_reaches0 sw_M_reaches0 shn_M_reaches0 slb_M_reaches0 [] san_M_reaches0 a1_M_reaches0_4 = true := by decide +kernel
theorem ks_M_reaches0_5 : chk1A GX (dN DH) 3000 sct_M_reaches0 sw_M_reaches0 shn_M_reaches0 slb_M_reaches0 [] san_M_reaches0 a1_M_reaches0_5 = true := by decide +kernel
theorem ks_M_reaches1_r : chk1E GX (dN DH) 3000 318 sct_M_reaches1 sw_M_reaches1 shn_M_reaches1 slb_M_reaches1 [] san_M_reaches1 100000 = true := by decide +kernel
theorem ks_M_reaches1_0 : chk1A GX (dN DH) 3000 sct_M_reaches1 sw_M_reaches1 shn_M_reaches1 slb_M_reaches1 [] san_M_reaches1 a1_M_reaches1_0 = true := by decide +kernel
theorem ks_M_reaches1_1 : chk1A GX (dN DH) 3000 sct_M_reaches1 sw_M_reaches1 shn_M_reaches1 slb_M_reaches1 [] san_M_reaches1 a1_M_reaches1_1 = true := by decide +kernel
theorem ks_M_reaches1_2 : chk1A GX (dN DH) 3000 sct_M_reaches1 sw_M_reaches1 shn_M_reaches1 slb_M_reaches1 [] san_M_reaches1 a1_M_reaches1_2 = true := by decide +kernel
theorem ks_M_reaches1_3 : chk1A GX (dN DH) 3000 sct_M_reaches1 sw_M_reaches1 shn_M_reaches1 slb_M_reaches1 [] san_M_reaches1 a1_M_reaches1_3 = true := by decide +kernel
theorem ks_M_reaches1_4 : chk1A GX (dN DH) 3000 sct_M_reaches1 sw_M_reaches1 shn_M_reaches1 slb_M_reaches1 [] san_M_reaches1 a1_M_reaches1_4 = true := by decide +kernel
theorem ks_M_reaches1_5 : chk1A GX (dN DH) 3000 sct_M_reaches1 sw_M_reaches1 shn_M_reaches1 slb_M_reaches1 [] san_M_reaches1 a1_M_reaches1_5 = true := by decide +kernel
theorem ks_Wh_groupsOf1_r : chk1E GX DH 3000 21 sct_Wh_groupsOf1 sw_Wh_groupsOf1 shn_Wh_groupsOf0 slb_Wh_groupsOf1 [] san_Wh_groupsOf1 100000 = true := by decide +kernel
theorem ks_Wh_groupsOf1_0 : chk1A GX DH 3000 sct_Wh_groupsOf1 sw_Wh_groupsOf1 shn_Wh_groupsOf0 slb_Wh_groupsOf1 [] san_Wh_groupsOf1 a1_Wh_groupsOf1_0 = true := by decide +kernel
theorem ks_Wh_groupsOf1_1 : chk1A GX DH 3000 sct_Wh_groupsOf1 sw_Wh_groupsOf1 shn_Wh_groupsOf0 slb_Wh_groupsOf1 [] san_Wh_groupsOf1 a1_Wh_groupsOf1_1 = true := by decide +kernel
theorem ks_Wh_groupsOf1_2 : chk1A GX DH 3000 sct_Wh_groupsOf1 sw_Wh_groupsOf1 shn_Wh_groupsOf0 slb_Wh_groupsOf1 [] san_Wh_groupsOf1 a1_Wh_groupsOf1_2 = true := by decide +kernel
theorem ks_Wh_groupsOf1_3 : chk1A GX DH 3000 sct_Wh_groupsOf1 sw_Wh_groupsOf1 shn_Wh_groupsOf0 slb_Wh_groupsOf1 [] san_Wh_groupsOf1 a1_Wh_groupsOf1_3 = true := by decide +kernel
theorem ks_M_reaches2_r : chk1E GX (dN DH) 3000 318 sct_M_reaches2 sw_M_reaches2 shn_M_reaches1 slb_M_reaches2 [] san_M_reaches2 100000 = true := by decide +kernel
theorem ks_M_reaches2_0 : chk1A GX (dN DH) 3000 sct_M_reaches2 sw_M_reaches2 shn_M_reaches1 slb_M_reaches2 [] san_M_reaches2 a1_M_reaches2_0 = true := by decide +kernel
theorem ks_M_reaches2_1 : chk1A GX (dN DH) 3000 sct_M_reaches2 sw_M_reaches2 shn_M_reaches1 slb_M_reaches2 [] san_M_reaches2 a1_M_reaches2_1 = true := by decide +kernel
theorem ks_M_reaches2_2 : chk1A GX (dN DH) 3000 sct_M_reaches2 sw_M_reaches2 shn_M_reaches1 slb_M_reaches2 [] san_M_reaches2 a1_M_reaches2_2 = true := by decide +kernel
theorem ks_M_reaches2_3 : chk1A GX (dN DH) 3000 sct_M_reaches2 sw_M_reaches2 shn_M_reaches1 slb_M_reaches2 [] san_M_reaches2 a1_M_reaches2_3 = true := by decide +kernel
theorem ks_M_reaches2_4 : chk1A GX (dN DH) 3000 sct_M_reaches2 sw_M_reaches2 shn_M_reaches1 slb_M_reaches2 [] san_M_reaches2 a1_M_reaches2_4 = true := by decide +kernel
theorem ks_M_reaches2_5 : chk1A GX (dN DH) 3000 sct_M_reaches2 sw_M_reaches2 shn_M_reaches1 slb_M_reaches2 [] san_M_reaches2 a1_M_reaches2_5 = true := by decide +kernel
