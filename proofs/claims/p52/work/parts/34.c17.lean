theorem k2_endLend_r : chk2 GX pc_endLend DH 3000 r2_endLend = true := by decide +kernel
theorem ks_Th_isUnder2_r : chk1E GX DH 3000 45 sct_Th_isUnder2 sw_Th_isUnder2 shn_Th_isUnder0 slb_Th_isUnder2 [] san_Th_isUnder2 100000 = true := by decide +kernel
theorem ks_Th_isUnder2_0 : chk1A GX DH 3000 sct_Th_isUnder2 sw_Th_isUnder2 shn_Th_isUnder0 slb_Th_isUnder2 [] san_Th_isUnder2 a1_Th_isUnder2_0 = true := by decide +kernel
theorem ks_Th_isUnder2_1 : chk1A GX DH 3000 sct_Th_isUnder2 sw_Th_isUnder2 shn_Th_isUnder0 slb_Th_isUnder2 [] san_Th_isUnder2 a1_Th_isUnder2_1 = true := by decide +kernel
theorem ks_Th_isUnder3_r : chk1E GX DH 3000 45 sct_Th_isUnder3 sw_Th_isUnder3 shn_Th_isUnder0 slb_Th_isUnder3 [] san_Th_isUnder3 100000 = true := by decide +kernel
theorem ks_Th_isUnder3_0 : chk1A GX DH 3000 sct_Th_isUnder3 sw_Th_isUnder3 shn_Th_isUnder0 slb_Th_isUnder3 [] san_Th_isUnder3 a1_Th_isUnder3_0 = true := by decide +kernel
