theorem ks_M_isUnder7_0 : chk1A GX (dN DH) 3000 sct_M_isUnder7 sw_M_isUnder7 shn_M_isUnder0 slb_M_isUnder7 [] san_M_isUnder7 a1_M_isUnder7_0 = true := by decide +kernel
theorem ks_M_isHeld10_r : chk1E GX (dN DH) 3000 343 sct_M_isHeld10 sw_M_isHeld10 shn_M_isHeld0 slb_M_isHeld10 [] san_M_isHeld10 20000 = true := by decide +kernel
theorem ks_M_isHeld10_0 : chk1A GX (dN DH) 3000 sct_M_isHeld10 sw_M_isHeld10 shn_M_isHeld0 slb_M_isHeld10 [] san_M_isHeld10 a1_M_isHeld10_0 = true := by decide +kernel
theorem ks_M_isHeld10_1 : chk1A GX (dN DH) 3000 sct_M_isHeld10 sw_M_isHeld10 shn_M_isHeld0 slb_M_isHeld10 [] san_M_isHeld10 a1_M_isHeld10_1 = true := by decide +kernel
theorem ks_M_isHeld10_2 : chk1A GX (dN DH) 3000 sct_M_isHeld10 sw_M_isHeld10 shn_M_isHeld0 slb_M_isHeld10 [] san_M_isHeld10 a1_M_isHeld10_2 = true := by decide +kernel
theorem ks_M_isHeld10_3 : chk1A GX (dN DH) 3000 sct_M_isHeld10 sw_M_isHeld10 shn_M_isHeld0 slb_M_isHeld10 [] san_M_isHeld10 a1_M_isHeld10_3 = true := by decide +kernel
