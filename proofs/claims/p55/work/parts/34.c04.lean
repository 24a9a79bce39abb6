theorem ks_M_isUnder3_0 : chk1A GX (dN DH) 3000 sct_M_isUnder3 sw_M_isUnder3 shn_M_isUnder0 slb_M_isUnder3 [] san_M_isUnder3 a1_M_isUnder3_0 = true := by decide +kernel
theorem k2_lend0x_r : chk2 GX pc_lend DH 3000 r2_lend0x = true := by decide +kernel
