theorem k2_endLend_r : chk2 GX pc_endLend DH 3000 r2_endLend = true := by decide +kernel
theorem ks_Th_isUnder2_r : chk1E GX DH 3000 45 sct_Th_isUnder2 sw_Th_isUnder2 shn_Th_isUnder0 slb_Th_isUnder2 [] san_Th_isUnder2 100000 = true := by decide +kernel
theorem ks_Th_isUnder2_0 : chk1A GX DH 3000 sct_Th_isUnder2 sw_Th_isUnder2 shn_Th_isUnder0 slb_Th_isUnder2 [] san_Th_isUnder2 a1_Th_isUnder2_0 = true := by decide +kernel
theorem ks_Th_isUnder2_1 : chk1A GX DH 3000 sct_Th_isUnder2 sw_Th_isUnder2 shn_Th_isUnder0 slb_Th_isUnder2 [] san_Th_isUnder2 a1_Th_isUnder2_1 = true := by decide +kernel
theorem ks_M_isHeld5_r : chk1E GX (dN DH) 3000 343 sct_M_isHeld5 sw_M_isHeld5 shn_M_isHeld0 slb_M_isHeld5 [] san_M_isHeld5 20000 = true := by decide +kernel
theorem ks_M_isHeld5_0 : chk1A GX (dN DH) 3000 sct_M_isHeld5 sw_M_isHeld5 shn_M_isHeld0 slb_M_isHeld5 [] san_M_isHeld5 a1_M_isHeld5_0 = true := by decide +kernel
theorem ks_M_isHeld5_1 : chk1A GX (dN DH) 3000 sct_M_isHeld5 sw_M_isHeld5 shn_M_isHeld0 slb_M_isHeld5 [] san_M_isHeld5 a1_M_isHeld5_1 = true := by decide +kernel
theorem ks_M_isHeld5_2 : chk1A GX (dN DH) 3000 sct_M_isHeld5 sw_M_isHeld5 shn_M_isHeld0 slb_M_isHeld5 [] san_M_isHeld5 a1_M_isHeld5_2 = true := by decide +kernel
theorem ks_M_isHeld5_3 : chk1A GX (dN DH) 3000 sct_M_isHeld5 sw_M_isHeld5 shn_M_isHeld0 slb_M_isHeld5 [] san_M_isHeld5 a1_M_isHeld5_3 = true := by decide +kernel
theorem ks_M_isUnder4_r : chk1E GX (dN DH) 3000 339 sct_M_isUnder4 sw_M_isUnder4 shn_M_isUnder0 slb_M_isUnder4 [] san_M_isUnder4 100000 = true := by decide +kernel
