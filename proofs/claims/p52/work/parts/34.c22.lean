theorem ks_M_isUnder7_0 : chk1A GX (dN DH) 3000 sct_M_isUnder7 sw_M_isUnder7 shn_M_isUnder0 slb_M_isUnder7 [] san_M_isUnder7 a1_M_isUnder7_0 = true := by decide +kernel
theorem ks_M_isHeld5_r : chk1E GX (dN DH) 3000 343 sct_M_isHeld5 sw_M_isHeld5 shn_M_isHeld0 slb_M_isHeld5 [] san_M_isHeld5 20000 = true := by decide +kernel
theorem ks_M_isHeld5_0 : chk1A GX (dN DH) 3000 sct_M_isHeld5 sw_M_isHeld5 shn_M_isHeld0 slb_M_isHeld5 [] san_M_isHeld5 a1_M_isHeld5_0 = true := by decide +kernel
theorem ks_M_isHeld5_1 : chk1A GX (dN DH) 3000 sct_M_isHeld5 sw_M_isHeld5 shn_M_isHeld0 slb_M_isHeld5 [] san_M_isHeld5 a1_M_isHeld5_1 = true := by decide +kernel
theorem ks_M_isHeld5_2 : chk1A GX (dN DH) 3000 sct_M_isHeld5 sw_M_isHeld5 shn_M_isHeld0 slb_M_isHeld5 [] san_M_isHeld5 a1_M_isHeld5_2 = true := by decide +kernel
theorem ks_M_isHeld5_3 : chk1A GX (dN DH) 3000 sct_M_isHeld5 sw_M_isHeld5 shn_M_isHeld0 slb_M_isHeld5 [] san_M_isHeld5 a1_M_isHeld5_3 = true := by decide +kernel
theorem ks_M_isHeld6_r : chk1E GX (dN DH) 3000 343 sct_M_isHeld6 sw_M_isHeld6 shn_M_isHeld0 slb_M_isHeld6 [] san_M_isHeld6 20000 = true := by decide +kernel
theorem ks_M_isHeld6_0 : chk1A GX (dN DH) 3000 sct_M_isHeld6 sw_M_isHeld6 shn_M_isHeld0 slb_M_isHeld6 [] san_M_isHeld6 a1_M_isHeld6_0 = true := by decide +kernel
theorem ks_M_isHeld6_1 : chk1A GX (dN DH) 3000 sct_M_isHeld6 sw_M_isHeld6 shn_M_isHeld0 slb_M_isHeld6 [] san_M_isHeld6 a1_M_isHeld6_1 = true := by decide +kernel
theorem ks_M_isHeld6_2 : chk1A GX (dN DH) 3000 sct_M_isHeld6 sw_M_isHeld6 shn_M_isHeld0 slb_M_isHeld6 [] san_M_isHeld6 a1_M_isHeld6_2 = true := by decide +kernel
theorem ks_M_isHeld6_3 : chk1A GX (dN DH) 3000 sct_M_isHeld6 sw_M_isHeld6 shn_M_isHeld0 slb_M_isHeld6 [] san_M_isHeld6 a1_M_isHeld6_3 = true := by decide +kernel
theorem ks_M_isHeld7_r : chk1E GX (dN DH) 3000 343 sct_M_isHeld7 sw_M_isHeld7 shn_M_isHeld0 slb_M_isHeld7 [] san_M_isHeld7 20000 = true := by decide +kernel
theorem ks_M_isHeld7_0 : chk1A GX (dN DH) 3000 sct_M_isHeld7 sw_M_isHeld7 shn_M_isHeld0 slb_M_isHeld7 [] san_M_isHeld7 a1_M_isHeld7_0 = true := by decide +kernel
theorem ks_M_isHeld7_1 : chk1A GX (dN DH) 3000 sct_M_isHeld7 sw_M_isHeld7 shn_M_isHeld0 slb_M_isHeld7 [] san_M_isHeld7 a1_M_isHeld7_1 = true := by decide +kernel
theorem ks_M_isHeld7_2 : chk1A GX (dN DH) 3000 sct_M_isHeld7 sw_M_isHeld7 shn_M_isHeld0 slb_M_isHeld7 [] san_M_isHeld7 a1_M_isHeld7_2 = true := by decide +kernel
theorem ks_M_isHeld7_3 : chk1A GX (dN DH) 3000 sct_M_isHeld7 sw_M_isHeld7 shn_M_isHeld0 slb_M_isHeld7 [] san_M_isHeld7 a1_M_isHeld7_3 = true := by decide +kernel
theorem ks_M_isHeld8_r : chk1E GX (dN DH) 3000 343 sct_M_isHeld8 sw_M_isHeld8 shn_M_isHeld0 slb_M_isHeld8 [] san_M_isHeld8 20000 = true := by decide +kernel
theorem ks_M_isHeld8_0 : chk1A GX (dN DH) 3000 sct_M_isHeld8 sw_M_isHeld8 shn_M_isHeld0 slb_M_isHeld8 [] san_M_isHeld8 a1_M_isHeld8_0 = true := by decide +kernel
theorem ks_M_isHeld8_1 : chk1A GX (dN DH) 3000 sct_M_isHeld8 sw_M_isHeld8 shn_M_isHeld0 slb_M_isHeld8 [] san_M_isHeld8 a1_M_isHeld8_1 = true := by decide +kernel
theorem ks_M_isHeld8_2 : chk1A GX (dN DH) 3000 sct_M_isHeld8 sw_M_isHeld8 shn_M_isHeld0 slb_M_isHeld8 [] san_M_isHeld8 a1_M_isHeld8_2 = true := by decide +kernel
theorem ks_M_isHeld8_3 : chk1A GX (dN DH) 3000 sct_M_isHeld8 sw_M_isHeld8 shn_M_isHeld0 slb_M_isHeld8 [] san_M_isHeld8 a1_M_isHeld8_3 = true := by decide +kernel
theorem ks_M_isHeld9_r : chk1E GX (dN DH) 3000 343 sct_M_isHeld9 sw_M_isHeld9 shn_M_isHeld0 slb_M_isHeld9 [] san_M_isHeld9 20000 = true := by decide +kernel
theorem ks_M_isHeld9_0 : chk1A GX (dN DH) 3000 sct_M_isHeld9 sw_M_isHeld9 shn_M_isHeld0 slb_M_isHeld9 [] san_M_isHeld9 a1_M_isHeld9_0 = true := by decide +kernel
theorem ks_M_isHeld9_1 : chk1A GX (dN DH) 3000 sct_M_isHeld9 sw_M_isHeld9 shn_M_isHeld0 slb_M_isHeld9 [] san_M_isHeld9 a1_M_isHeld9_1 = true := by decide +kernel
theorem ks_M_isHeld9_2 : chk1A GX (dN DH) 3000 sct_M_isHeld9 sw_M_isHeld9 shn_M_isHeld0 slb_M_isHeld9 [] san_M_isHeld9 a1_M_isHeld9_2 = true := by decide +kernel
theorem ks_M_isHeld9_3 : chk1A GX (dN DH) 3000 sct_M_isHeld9 sw_M_isHeld9 shn_M_isHeld0 slb_M_isHeld9 [] san_M_isHeld9 a1_M_isHeld9_3 = true := by decide +kernel
theorem ks_M_isHeld10_r : chk1E GX (dN DH) 3000 343 sct_M_isHeld10 sw_M_isHeld10 shn_M_isHeld0 slb_M_isHeld10 [] san_M_isHeld10 20000 = true := by decide +kernel
theorem ks_M_isHeld10_0 : chk1A GX (dN DH) 3000 sct_M_isHeld10 sw_M_isHeld10 shn_M_isHeld0 slb_M_isHeld10 [] san_M_isHeld10 a1_M_isHeld10_0 = true := by decide +kernel
theorem ks_M_isHeld10_1 : chk1A GX (dN DH) 3000 sct_M_isHeld10 sw_M_isHeld10 shn_M_isHeld0 slb_M_isHeld10 [] san_M_isHeld10 a1_M_isHeld10_1 = true := by decide +kernel
theorem ks_M_isHeld10_2 : chk1A GX (dN DH) 3000 sct_M_isHeld10 sw_M_isHeld10 shn_M_isHeld0 slb_M_isHeld10 [] san_M_isHeld10 a1_M_isHeld10_2 = true := by decide +kernel
theorem ks_M_isHeld10_3 : chk1A GX (dN DH) 3000 sct_M_isHeld10 sw_M_isHeld10 shn_M_isHeld0 slb_M_isHeld10 [] san_M_isHeld10 a1_M_isHeld10_3 = true := by decide +kernel
