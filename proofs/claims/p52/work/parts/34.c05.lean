theorem ks_M_isUnder3_0 : chk1A GX (dN DH) 3000 sct_M_isUnder3 sw_M_isUnder3 shn_M_isUnder0 slb_M_isUnder3 [] san_M_isUnder3 a1_M_isUnder3_0 = true := by decide +kernel
theorem ks_M_isHeld0_r : chk1E GX (dN DH) 3000 343 sct_M_isHeld0 sw_M_isHeld0 shn_M_isHeld0 slb_M_isHeld0 [] san_M_isHeld0 20000 = true := by decide +kernel
theorem ks_M_isHeld0_0 : chk1A GX (dN DH) 3000 sct_M_isHeld0 sw_M_isHeld0 shn_M_isHeld0 slb_M_isHeld0 [] san_M_isHeld0 a1_M_isHeld0_0 = true := by decide +kernel
theorem ks_M_isHeld0_1 : chk1A GX (dN DH) 3000 sct_M_isHeld0 sw_M_isHeld0 shn_M_isHeld0 slb_M_isHeld0 [] san_M_isHeld0 a1_M_isHeld0_1 = true := by decide +kernel
theorem ks_M_isHeld0_2 : chk1A GX (dN DH) 3000 sct_M_isHeld0 sw_M_isHeld0 shn_M_isHeld0 slb_M_isHeld0 [] san_M_isHeld0 a1_M_isHeld0_2 = true := by decide +kernel
theorem ks_M_isHeld0_3 : chk1A GX (dN DH) 3000 sct_M_isHeld0 sw_M_isHeld0 shn_M_isHeld0 slb_M_isHeld0 [] san_M_isHeld0 a1_M_isHeld0_3 = true := by decide +kernel
theorem ks_M_isHeld1_r : chk1E GX (dN DH) 3000 343 sct_M_isHeld1 sw_M_isHeld1 shn_M_isHeld0 slb_M_isHeld1 [] san_M_isHeld1 20000 = true := by decide +kernel
theorem ks_M_isHeld1_0 : chk1A GX (dN DH) 3000 sct_M_isHeld1 sw_M_isHeld1 shn_M_isHeld0 slb_M_isHeld1 [] san_M_isHeld1 a1_M_isHeld1_0 = true := by decide +kernel
theorem ks_M_isHeld1_1 : chk1A GX (dN DH) 3000 sct_M_isHeld1 sw_M_isHeld1 shn_M_isHeld0 slb_M_isHeld1 [] san_M_isHeld1 a1_M_isHeld1_1 = true := by decide +kernel
theorem ks_M_isHeld1_2 : chk1A GX (dN DH) 3000 sct_M_isHeld1 sw_M_isHeld1 shn_M_isHeld0 slb_M_isHeld1 [] san_M_isHeld1 a1_M_isHeld1_2 = true := by decide +kernel
theorem ks_M_isHeld1_3 : chk1A GX (dN DH) 3000 sct_M_isHeld1 sw_M_isHeld1 shn_M_isHeld0 slb_M_isHeld1 [] san_M_isHeld1 a1_M_isHeld1_3 = true := by decide +kernel
theorem ks_M_isHeld2_r : chk1E GX (dN DH) 3000 343 sct_M_isHeld2 sw_M_isHeld2 shn_M_isHeld0 slb_M_isHeld2 [] san_M_isHeld2 20000 = true := by decide +kernel
theorem ks_M_isHeld2_0 : chk1A GX (dN DH) 3000 sct_M_isHeld2 sw_M_isHeld2 shn_M_isHeld0 slb_M_isHeld2 [] san_M_isHeld2 a1_M_isHeld2_0 = true := by decide +kernel
theorem ks_M_isHeld2_1 : chk1A GX (dN DH) 3000 sct_M_isHeld2 sw_M_isHeld2 shn_M_isHeld0 slb_M_isHeld2 [] san_M_isHeld2 a1_M_isHeld2_1 = true := by decide +kernel
theorem ks_M_isHeld2_2 : chk1A GX (dN DH) 3000 sct_M_isHeld2 sw_M_isHeld2 shn_M_isHeld0 slb_M_isHeld2 [] san_M_isHeld2 a1_M_isHeld2_2 = true := by decide +kernel
theorem ks_M_isHeld2_3 : chk1A GX (dN DH) 3000 sct_M_isHeld2 sw_M_isHeld2 shn_M_isHeld0 slb_M_isHeld2 [] san_M_isHeld2 a1_M_isHeld2_3 = true := by decide +kernel
theorem ks_M_isHeld3_r : chk1E GX (dN DH) 3000 343 sct_M_isHeld3 sw_M_isHeld3 shn_M_isHeld0 slb_M_isHeld3 [] san_M_isHeld3 20000 = true := by decide +kernel
theorem ks_M_isHeld3_0 : chk1A GX (dN DH) 3000 sct_M_isHeld3 sw_M_isHeld3 shn_M_isHeld0 slb_M_isHeld3 [] san_M_isHeld3 a1_M_isHeld3_0 = true := by decide +kernel
theorem ks_M_isHeld3_1 : chk1A GX (dN DH) 3000 sct_M_isHeld3 sw_M_isHeld3 shn_M_isHeld0 slb_M_isHeld3 [] san_M_isHeld3 a1_M_isHeld3_1 = true := by decide +kernel
theorem ks_M_isHeld3_2 : chk1A GX (dN DH) 3000 sct_M_isHeld3 sw_M_isHeld3 shn_M_isHeld0 slb_M_isHeld3 [] san_M_isHeld3 a1_M_isHeld3_2 = true := by decide +kernel
theorem ks_M_isHeld3_3 : chk1A GX (dN DH) 3000 sct_M_isHeld3 sw_M_isHeld3 shn_M_isHeld0 slb_M_isHeld3 [] san_M_isHeld3 a1_M_isHeld3_3 = true := by decide +kernel
theorem ks_M_isHeld4_r : chk1E GX (dN DH) 3000 343 sct_M_isHeld4 sw_M_isHeld4 shn_M_isHeld0 slb_M_isHeld4 [] san_M_isHeld4 20000 = true := by decide +kernel
theorem ks_M_isHeld4_0 : chk1A GX (dN DH) 3000 sct_M_isHeld4 sw_M_isHeld4 shn_M_isHeld0 slb_M_isHeld4 [] san_M_isHeld4 a1_M_isHeld4_0 = true := by decide +kernel
theorem ks_M_isHeld4_1 : chk1A GX (dN DH) 3000 sct_M_isHeld4 sw_M_isHeld4 shn_M_isHeld0 slb_M_isHeld4 [] san_M_isHeld4 a1_M_isHeld4_1 = true := by decide +kernel
theorem ks_M_isHeld4_2 : chk1A GX (dN DH) 3000 sct_M_isHeld4 sw_M_isHeld4 shn_M_isHeld0 slb_M_isHeld4 [] san_M_isHeld4 a1_M_isHeld4_2 = true := by decide +kernel
theorem ks_M_isHeld4_3 : chk1A GX (dN DH) 3000 sct_M_isHeld4 sw_M_isHeld4 shn_M_isHeld0 slb_M_isHeld4 [] san_M_isHeld4 a1_M_isHeld4_3 = true := by decide +kernel
theorem k2_lend0x_r : chk2 GX pc_lend DH 3000 r2_lend0x = true := by decide +kernel
