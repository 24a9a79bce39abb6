theorem ks_M_isUnder6_0 : chk1A GX (dN DH) 3000 sct_M_isUnder6 sw_M_isUnder6 shn_M_isUnder0 slb_M_isUnder6 [] san_M_isUnder6 a1_M_isUnder6_0 = true := by decide +kernel
theorem ks_M_isHeld8_r : chk1E GX (dN DH) 3000 343 sct_M_isHeld8 sw_M_isHeld8 shn_M_isHeld0 slb_M_isHeld8 [] san_M_isHeld8 20000 = true := by decide +kernel
theorem ks_M_isHeld8_0 : chk1A GX (dN DH) 3000 sct_M_isHeld8 sw_M_isHeld8 shn_M_isHeld0 slb_M_isHeld8 [] san_M_isHeld8 a1_M_isHeld8_0 = true := by decide +kernel
theorem ks_M_isHeld8_1 : chk1A GX (dN DH) 3000 sct_M_isHeld8 sw_M_isHeld8 shn_M_isHeld0 slb_M_isHeld8 [] san_M_isHeld8 a1_M_isHeld8_1 = true := by decide +kernel
theorem ks_M_isHeld8_2 : chk1A GX (dN DH) 3000 sct_M_isHeld8 sw_M_isHeld8 shn_M_isHeld0 slb_M_isHeld8 [] san_M_isHeld8 a1_M_isHeld8_2 = true := by decide +kernel
theorem ks_M_isHeld8_3 : chk1A GX (dN DH) 3000 sct_M_isHeld8 sw_M_isHeld8 shn_M_isHeld0 slb_M_isHeld8 [] san_M_isHeld8 a1_M_isHeld8_3 = true := by decide +kernel
theorem ks_Th_isUnder4_r : chk1E GX DH 3000 45 sct_Th_isUnder4 sw_Th_isUnder4 shn_Th_isUnder0 slb_Th_isUnder4 [] san_Th_isUnder4 100000 = true := by decide +kernel
theorem ks_Th_isUnder4_0 : chk1A GX DH 3000 sct_Th_isUnder4 sw_Th_isUnder4 shn_Th_isUnder0 slb_Th_isUnder4 [] san_Th_isUnder4 a1_Th_isUnder4_0 = true := by decide +kernel
theorem ks_Th_isUnder4_1 : chk1A GX DH 3000 sct_Th_isUnder4 sw_Th_isUnder4 shn_Th_isUnder0 slb_Th_isUnder4 [] san_Th_isUnder4 a1_Th_isUnder4_1 = true := by decide +kernel
theorem ks_M_isHeld9_r : chk1E GX (dN DH) 3000 343 sct_M_isHeld9 sw_M_isHeld9 shn_M_isHeld0 slb_M_isHeld9 [] san_M_isHeld9 20000 = true := by decide +kernel
theorem ks_M_isHeld9_0 : chk1A GX (dN DH) 3000 sct_M_isHeld9 sw_M_isHeld9 shn_M_isHeld0 slb_M_isHeld9 [] san_M_isHeld9 a1_M_isHeld9_0 = true := by decide +kernel
theorem ks_M_isHeld9_1 : chk1A GX (dN DH) 3000 sct_M_isHeld9 sw_M_isHeld9 shn_M_isHeld0 slb_M_isHeld9 [] san_M_isHeld9 a1_M_isHeld9_1 = true := by decide +kernel
theorem ks_M_isHeld9_2 : chk1A GX (dN DH) 3000 sct_M_isHeld9 sw_M_isHeld9 shn_M_isHeld0 slb_M_isHeld9 [] san_M_isHeld9 a1_M_isHeld9_2 = true := by decide +kernel
theorem ks_M_isHeld9_3 : chk1A GX (dN DH) 3000 sct_M_isHeld9 sw_M_isHeld9 shn_M_isHeld0 slb_M_isHeld9 [] san_M_isHeld9 a1_M_isHeld9_3 = true := by decide +kernel
theorem ks_M_isUnder7_r : chk1E GX (dN DH) 3000 339 sct_M_isUnder7 sw_M_isUnder7 shn_M_isUnder0 slb_M_isUnder7 [] san_M_isUnder7 100000 = true := by decide +kernel
