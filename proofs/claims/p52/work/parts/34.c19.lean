theorem ks_M_isUnder4_0 : chk1A GX (dN DH) 3000 sct_M_isUnder4 sw_M_isUnder4 shn_M_isUnder0 slb_M_isUnder4 [] san_M_isUnder4 a1_M_isUnder4_0 = true := by decide +kernel
theorem ks_M_isUnder5_r : chk1E GX (dN DH) 3000 339 sct_M_isUnder5 sw_M_isUnder5 shn_M_isUnder0 slb_M_isUnder5 [] san_M_isUnder5 100000 = true := by decide +kernel
