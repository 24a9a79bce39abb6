theorem ks_Th_isUnder0_1 : chk1A GX DH 3000 sct_Th_isUnder0 sw_Th_isUnder0 shn_Th_isUnder0 slb_Th_isUnder0 [] san_Th_isUnder0 a1_Th_isUnder0_1 = true := by decide +kernel
theorem ks_Th_isUnder1_r : chk1E GX DH 3000 45 sct_Th_isUnder1 sw_Th_isUnder1 shn_Th_isUnder0 slb_Th_isUnder1 [] san_Th_isUnder1 100000 = true := by decide +kernel
theorem ks_Th_isUnder1_0 : chk1A GX DH 3000 sct_Th_isUnder1 sw_Th_isUnder1 shn_Th_isUnder0 slb_Th_isUnder1 [] san_Th_isUnder1 a1_Th_isUnder1_0 = true := by decide +kernel
theorem ks_Th_isUnder1_1 : chk1A GX DH 3000 sct_Th_isUnder1 sw_Th_isUnder1 shn_Th_isUnder0 slb_Th_isUnder1 [] san_Th_isUnder1 a1_Th_isUnder1_1 = true := by decide +kernel
theorem ks_M_isUnder0_r : chk1E GX (dN DH) 3000 339 sct_M_isUnder0 sw_M_isUnder0 shn_M_isUnder0 slb_M_isUnder0 [] san_M_isUnder0 100000 = true := by decide +kernel
