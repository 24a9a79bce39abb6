theorem ks_M_reaches1_3 : chk1A GX (dN DH) 3000 sct_M_reaches1 sw_M_reaches1 shn_M_reaches0 slb_M_reaches1 [] san_M_reaches1 a1_M_reaches1_3 = true := by decide +kernel
theorem ks_M_reaches1_4 : chk1A GX (dN DH) 3000 sct_M_reaches1 sw_M_reaches1 shn_M_reaches0 slb_M_reaches1 [] san_M_reaches1 a1_M_reaches1_4 = true := by decide +kernel
theorem ks_M_reaches1_5 : chk1A GX (dN DH) 3000 sct_M_reaches1 sw_M_reaches1 shn_M_reaches0 slb_M_reaches1 [] san_M_reaches1 a1_M_reaches1_5 = true := by decide +kernel
theorem ks_M_reaches2_r : chk1E GX (dN DH) 3000 318 sct_M_reaches2 sw_M_reaches2 shn_M_reaches0 slb_M_reaches2 [] san_M_reaches2 100000 = true := by decide +kernel
theorem ks_M_reaches2_0 : chk1A GX (dN DH) 3000 sct_M_reaches2 sw_M_reaches2 shn_M_reaches0 slb_M_reaches2 [] san_M_reaches2 a1_M_reaches2_0 = true := by decide +kernel
theorem ks_M_reaches2_1 : chk1A GX (dN DH) 3000 sct_M_reaches2 sw_M_reaches2 shn_M_reaches0 slb_M_reaches2 [] san_M_reaches2 a1_M_reaches2_1 = true := by decide +kernel
theorem ks_M_reaches2_2 : chk1A GX (dN DH) 3000 sct_M_reaches2 sw_M_reaches2 shn_M_reaches0 slb_M_reaches2 [] san_M_reaches2 a1_M_reaches2_2 = true := by decide +kernel
theorem ks_M_reaches2_3 : chk1A GX (dN DH) 3000 sct_M_reaches2 sw_M_reaches2 shn_M_reaches0 slb_M_reaches2 [] san_M_reaches2 a1_M_reaches2_3 = true := by decide +kernel
theorem ks_M_reaches2_4 : chk1A GX (dN DH) 3000 sct_M_reaches2 sw_M_reaches2 shn_M_reaches0 slb_M_reaches2 [] san_M_reaches2 a1_M_reaches2_4 = true := by decide +kernel
theorem ks_M_reaches2_5 : chk1A GX (dN DH) 3000 sct_M_reaches2 sw_M_reaches2 shn_M_reaches0 slb_M_reaches2 [] san_M_reaches2 a1_M_reaches2_5 = true := by decide +kernel
theorem k2_give_r : chk2 GX pc_give DH 3000 r2_give = true := by decide +kernel
theorem k2_give_0 : chk2 GX pc_give DH 3000 a2_give_0 = true := by decide +kernel
theorem k2_give_1 : chk2 GX pc_give DH 3000 a2_give_1 = true := by decide +kernel
theorem k2_give_2 : chk2 GX pc_give DH 3000 a2_give_2 = true := by decide +kernel
theorem k2_give_3 : chk2 GX pc_give DH 3000 a2_give_3 = true := by decide +kernel
