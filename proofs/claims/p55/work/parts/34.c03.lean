theorem ks_M_isUnder2_0 : chk1A GX (dN DH) 3000 sct_M_isUnder2 sw_M_isUnder2 shn_M_isUnder0 slb_M_isUnder2 [] san_M_isUnder2 a1_M_isUnder2_0 = true := by decide +kernel
theorem ks_M_isHeld4_r : chk1E GX (dN DH) 3000 343 sct_M_isHeld4 sw_M_isHeld4 shn_M_isHeld0 slb_M_isHeld4 [] san_M_isHeld4 20000 = true := by decide +kernel
theorem ks_M_isHeld4_0 : chk1A GX (dN DH) 3000 sct_M_isHeld4 sw_M_isHeld4 shn_M_isHeld0 slb_M_isHeld4 [] san_M_isHeld4 a1_M_isHeld4_0 = true := by decide +kernel
theorem ks_M_isHeld4_1 : chk1A GX (dN DH) 3000 sct_M_isHeld4 sw_M_isHeld4 shn_M_isHeld0 slb_M_isHeld4 [] san_M_isHeld4 a1_M_isHeld4_1 = true := by decide +kernel
theorem ks_M_isHeld4_2 : chk1A GX (dN DH) 3000 sct_M_isHeld4 sw_M_isHeld4 shn_M_isHeld0 slb_M_isHeld4 [] san_M_isHeld4 a1_M_isHeld4_2 = true := by decide +kernel
theorem ks_M_isHeld4_3 : chk1A GX (dN DH) 3000 sct_M_isHeld4 sw_M_isHeld4 shn_M_isHeld0 slb_M_isHeld4 [] san_M_isHeld4 a1_M_isHeld4_3 = true := by decide +kernel
theorem ks_M_isUnder3_r : chk1E GX (dN DH) 3000 339 sct_M_isUnder3 sw_M_isUnder3 shn_M_isUnder0 slb_M_isUnder3 [] san_M_isUnder3 100000 = true := by decide +kernel
