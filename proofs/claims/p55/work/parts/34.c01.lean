theorem ks_Th_isUnder0_1 : chk1A GX DH 3000 sct_Th_isUnder0 sw_Th_isUnder0 shn_Th_isUnder0 slb_Th_isUnder0 [] san_Th_isUnder0 a1_Th_isUnder0_1 = true := by decide +kernel
theorem ks_M_isHeld0_r : chk1E GX (dN DH) 3000 343 sct_M_isHeld0 sw_M_isHeld0 shn_M_isHeld0 slb_M_isHeld0 [] san_M_isHeld0 20000 = true := by decide +kernel
theorem ks_M_isHeld0_0 : chk1A GX (dN DH) 3000 sct_M_isHeld0 sw_M_isHeld0 shn_M_isHeld0 slb_M_isHeld0 [] san_M_isHeld0 a1_M_isHeld0_0 = true := by decide +kernel
theorem ks_M_isHeld0_1 : chk1A GX (dN DH) 3000 sct_M_isHeld0 sw_M_isHeld0 shn_M_isHeld0 slb_M_isHeld0 [] san_M_isHeld0 a1_M_isHeld0_1 = true := by decide +kernel
theorem ks_M_isHeld0_2 : chk1A GX (dN DH) 3000 sct_M_isHeld0 sw_M_isHeld0 shn_M_isHeld0 slb_M_isHeld0 [] san_M_isHeld0 a1_M_isHeld0_2 = true := by decide +kernel
theorem ks_M_isHeld0_3 : chk1A GX (dN DH) 3000 sct_M_isHeld0 sw_M_isHeld0 shn_M_isHeld0 slb_M_isHeld0 [] san_M_isHeld0 a1_M_isHeld0_3 = true := by decide +kernel
theorem ks_M_isUnder0_r : chk1E GX (dN DH) 3000 339 sct_M_isUnder0 sw_M_isUnder0 shn_M_isUnder0 slb_M_isUnder0 [] san_M_isUnder0 100000 = true := by decide +kernel
theorem ks_M_isUnder0_0 : chk1A GX (dN DH) 3000 sct_M_isUnder0 sw_M_isUnder0 shn_M_isUnder0 slb_M_isUnder0 [] san_M_isUnder0 a1_M_isUnder0_0 = true := by decide +kernel
theorem ks_M_isHeld1_r : chk1E GX (dN DH) 3000 343 sct_M_isHeld1 sw_M_isHeld1 shn_M_isHeld0 slb_M_isHeld1 [] san_M_isHeld1 20000 = true := by decide +kernel
theorem ks_M_isHeld1_0 : chk1A GX (dN DH) 3000 sct_M_isHeld1 sw_M_isHeld1 shn_M_isHeld0 slb_M_isHeld1 [] san_M_isHeld1 a1_M_isHeld1_0 = true := by decide +kernel
theorem ks_M_isHeld1_1 : chk1A GX (dN DH) 3000 sct_M_isHeld1 sw_M_isHeld1 shn_M_isHeld0 slb_M_isHeld1 [] san_M_isHeld1 a1_M_isHeld1_1 = true := by decide +kernel
theorem ks_M_isHeld1_2 : chk1A GX (dN DH) 3000 sct_M_isHeld1 sw_M_isHeld1 shn_M_isHeld0 slb_M_isHeld1 [] san_M_isHeld1 a1_M_isHeld1_2 = true := by decide +kernel
theorem ks_M_isHeld1_3 : chk1A GX (dN DH) 3000 sct_M_isHeld1 sw_M_isHeld1 shn_M_isHeld0 slb_M_isHeld1 [] san_M_isHeld1 a1_M_isHeld1_3 = true := by decide +kernel
theorem ks_M_isUnder1_r : chk1E GX (dN DH) 3000 339 sct_M_isUnder1 sw_M_isUnder1 shn_M_isUnder0 slb_M_isUnder1 [] san_M_isUnder1 100000 = true := by decide +kernel
