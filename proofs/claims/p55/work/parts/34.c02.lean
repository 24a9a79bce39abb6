theorem ks_M_isUnder1_0 : chk1A GX (dN DH) 3000 sct_M_isUnder1 sw_M_isUnder1 shn_M_isUnder0 slb_M_isUnder1 [] san_M_isUnder1 a1_M_isUnder1_0 = true := by decide +kernel
theorem ks_M_isHeld2_r : chk1E GX (dN DH) 3000 343 sct_M_isHeld2 sw_M_isHeld2 shn_M_isHeld0 slb_M_isHeld2 [] san_M_isHeld2 20000 = true := by decide +kernel
theorem ks_M_isHeld2_0 : chk1A GX (dN DH) 3000 sct_M_isHeld2 sw_M_isHeld2 shn_M_isHeld0 slb_M_isHeld2 [] san_M_isHeld2 a1_M_isHeld2_0 = true := by decide +kernel
theorem ks_M_isHeld2_1 : chk1A GX (dN DH) 3000 sct_M_isHeld2 sw_M_isHeld2 shn_M_isHeld0 slb_M_isHeld2 [] san_M_isHeld2 a1_M_isHeld2_1 = true := by decide +kernel
theorem ks_M_isHeld2_2 : chk1A GX (dN DH) 3000 sct_M_isHeld2 sw_M_isHeld2 shn_M_isHeld0 slb_M_isHeld2 [] san_M_isHeld2 a1_M_isHeld2_2 = true := by decide +kernel
theorem ks_M_isHeld2_3 : chk1A GX (dN DH) 3000 sct_M_isHeld2 sw_M_isHeld2 shn_M_isHeld0 slb_M_isHeld2 [] san_M_isHeld2 a1_M_isHeld2_3 = true := by decide +kernel
theorem ks_Th_isUnder1_r : chk1E GX DH 3000 45 sct_Th_isUnder1 sw_Th_isUnder1 shn_Th_isUnder0 slb_Th_isUnder1 [] san_Th_isUnder1 100000 = true := by decide +kernel
theorem ks_Th_isUnder1_0 : chk1A GX DH 3000 sct_Th_isUnder1 sw_Th_isUnder1 shn_Th_isUnder0 slb_Th_isUnder1 [] san_Th_isUnder1 a1_Th_isUnder1_0 = true := by decide +kernel
theorem ks_Th_isUnder1_1 : chk1A GX DH 3000 sct_Th_isUnder1 sw_Th_isUnder1 shn_Th_isUnder0 slb_Th_isUnder1 [] san_Th_isUnder1 a1_Th_isUnder1_1 = true := by decide +kernel
theorem ks_M_isHeld3_r : chk1E GX (dN DH) 3000 343 sct_M_isHeld3 sw_M_isHeld3 shn_M_isHeld0 slb_M_isHeld3 [] san_M_isHeld3 20000 = true := by decide +kernel
theorem ks_M_isHeld3_0 : chk1A GX (dN DH) 3000 sct_M_isHeld3 sw_M_isHeld3 shn_M_isHeld0 slb_M_isHeld3 [] san_M_isHeld3 a1_M_isHeld3_0 = true := by decide +kernel
theorem ks_M_isHeld3_1 : chk1A GX (dN DH) 3000 sct_M_isHeld3 sw_M_isHeld3 shn_M_isHeld0 slb_M_isHeld3 [] san_M_isHeld3 a1_M_isHeld3_1 = true := by decide +kernel
theorem ks_M_isHeld3_2 : chk1A GX (dN DH) 3000 sct_M_isHeld3 sw_M_isHeld3 shn_M_isHeld0 slb_M_isHeld3 [] san_M_isHeld3 a1_M_isHeld3_2 = true := by decide +kernel
theorem ks_M_isHeld3_3 : chk1A GX (dN DH) 3000 sct_M_isHeld3 sw_M_isHeld3 shn_M_isHeld0 slb_M_isHeld3 [] san_M_isHeld3 a1_M_isHeld3_3 = true := by decide +kernel
theorem ks_M_isUnder2_r : chk1E GX (dN DH) 3000 339 sct_M_isUnder2 sw_M_isUnder2 shn_M_isUnder0 slb_M_isUnder2 [] san_M_isUnder2 100000 = true := by decide +kernel
