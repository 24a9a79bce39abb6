theorem ks_M_isUnder5_0 : chk1A GX (dN DH) 3000 sct_M_isUnder5 sw_M_isUnder5 shn_M_isUnder0 slb_M_isUnder5 [] san_M_isUnder5 a1_M_isUnder5_0 = true := by decide +kernel
theorem ks_M_isHeld7_r : chk1E GX (dN DH) 3000 343 sct_M_isHeld7 sw_M_isHeld7 shn_M_isHeld0 slb_M_isHeld7 [] san_M_isHeld7 20000 = true := by decide +kernel
theorem ks_M_isHeld7_0 : chk1A GX (dN DH) 3000 sct_M_isHeld7 sw_M_isHeld7 shn_M_isHeld0 slb_M_isHeld7 [] san_M_isHeld7 a1_M_isHeld7_0 = true := by decide +kernel
theorem ks_M_isHeld7_1 : chk1A GX (dN DH) 3000 sct_M_isHeld7 sw_M_isHeld7 shn_M_isHeld0 slb_M_isHeld7 [] san_M_isHeld7 a1_M_isHeld7_1 = true := by decide +kernel
theorem ks_M_isHeld7_2 : chk1A GX (dN DH) 3000 sct_M_isHeld7 sw_M_isHeld7 shn_M_isHeld0 slb_M_isHeld7 [] san_M_isHeld7 a1_M_isHeld7_2 = true := by decide +kernel
theorem ks_M_isHeld7_3 : chk1A GX (dN DH) 3000 sct_M_isHeld7 sw_M_isHeld7 shn_M_isHeld0 slb_M_isHeld7 [] san_M_isHeld7 a1_M_isHeld7_3 = true := by decide +kernel
theorem ks_M_isUnder6_r : chk1E GX (dN DH) 3000 339 sct_M_isUnder6 sw_M_isUnder6 shn_M_isUnder0 slb_M_isUnder6 [] san_M_isUnder6 100000 = true := by decide +kernel
