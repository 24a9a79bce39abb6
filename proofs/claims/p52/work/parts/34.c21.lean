theorem ks_M_isUnder6_0 : chk1A GX (dN DH) 3000 sct_M_isUnder6 sw_M_isUnder6 shn_M_isUnder0 slb_M_isUnder6 [] san_M_isUnder6 a1_M_isUnder6_0 = true := by decide +kernel
theorem ks_M_isUnder7_r : chk1E GX (dN DH) 3000 339 sct_M_isUnder7 sw_M_isUnder7 shn_M_isUnder0 slb_M_isUnder7 [] san_M_isUnder7 100000 = true := by decide +kernel
