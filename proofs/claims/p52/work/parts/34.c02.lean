theorem ks_M_isUnder0_0 : chk1A GX (dN DH) 3000 sct_M_isUnder0 sw_M_isUnder0 shn_M_isUnder0 slb_M_isUnder0 [] san_M_isUnder0 a1_M_isUnder0_0 = true := by decide +kernel
theorem ks_M_isUnder1_r : chk1E GX (dN DH) 3000 339 sct_M_isUnder1 sw_M_isUnder1 shn_M_isUnder0 slb_M_isUnder1 [] san_M_isUnder1 100000 = true := by decide +kernel
