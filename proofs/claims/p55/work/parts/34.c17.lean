theorem ks_M_isUnder4_0 : chk1A GX (dN DH) 3000 sct_M_isUnder4 sw_M_isUnder4 shn_M_isUnder0 slb_M_isUnder4 [] san_M_isUnder4 a1_M_isUnder4_0 = true := by decide +kernel
theorem ks_Th_isUnder3_r : chk1E GX DH 3000 45 sct_Th_isUnder3 sw_Th_isUnder3 shn_Th_isUnder0 slb_Th_isUnder3 [] san_Th_isUnder3 100000 = true := by decide +kernel
theorem ks_Th_isUnder3_0 : chk1A GX DH 3000 sct_Th_isUnder3 sw_Th_isUnder3 shn_Th_isUnder0 slb_Th_isUnder3 [] san_Th_isUnder3 a1_Th_isUnder3_0 = true := by decide +kernel
theorem ks_Th_isUnder3_1 : chk1A GX DH 3000 sct_Th_isUnder3 sw_Th_isUnder3 shn_Th_isUnder0 slb_Th_isUnder3 [] san_Th_isUnder3 a1_Th_isUnder3_1 = true := by decide +kernel
theorem ks_M_isHeld6_r : chk1E GX (dN DH) 3000 343 sct_M_isHeld6 sw_M_isHeld6 shn_M_isHeld0 slb_M_isHeld6 [] san_M_isHeld6 20000 = true := by decide +kernel
theorem ks_M_isHeld6_0 : chk1A GX (dN DH) 3000 sct_M_isHeld6 sw_M_isHeld6 shn_M_isHeld0 slb_M_isHeld6 [] san_M_isHeld6 a1_M_isHeld6_0 = true := by decide +kernel
theorem ks_M_isHeld6_1 : chk1A GX (dN DH) 3000 sct_M_isHeld6 sw_M_isHeld6 shn_M_isHeld0 slb_M_isHeld6 [] san_M_isHeld6 a1_M_isHeld6_1 = true := by decide +kernel
theorem ks_M_isHeld6_2 : chk1A GX (dN DH) 3000 sct_M_isHeld6 sw_M_isHeld6 shn_M_isHeld0 slb_M_isHeld6 [] san_M_isHeld6 a1_M_isHeld6_2 = true := by decide +kernel
theorem ks_M_isHeld6_3 : chk1A GX (dN DH) 3000 sct_M_isHeld6 sw_M_isHeld6 shn_M_isHeld0 slb_M_isHeld6 [] san_M_isHeld6 a1_M_isHeld6_3 = true := by decide +kernel
theorem ks_M_isUnder5_r : chk1E GX (dN DH) 3000 339 sct_M_isUnder5 sw_M_isUnder5 shn_M_isUnder0 slb_M_isUnder5 [] san_M_isUnder5 100000 = true := by decide +kernel
