theorem ks_M_searches2_6 : chk1A GX (dN DH) 3000 sct_M_searches2 sw_M_searches2 shn_M_searches0 slb_M_searches2 sn_M_searches2 san_M_searches2 a1_M_searches2_6 = true := by decide +kernel
theorem ks_M_reaches8_r : chk1E GX (dN DH) 3000 318 sct_M_reaches8 sw_M_reaches8 shn_M_reaches1 slb_M_reaches8 [] san_M_reaches8 100000 = true := by decide +kernel
theorem ks_M_reaches8_0 : chk1A GX (dN DH) 3000 sct_M_reaches8 sw_M_reaches8 shn_M_reaches1 slb_M_reaches8 [] san_M_reaches8 a1_M_reaches8_0 = true := by decide +kernel
theorem ks_M_reaches8_1 : chk1A GX (dN DH) 3000 sct_M_reaches8 sw_M_reaches8 shn_M_reaches1 slb_M_reaches8 [] san_M_reaches8 a1_M_reaches8_1 = true := by decide +kernel
theorem ks_M_reaches8_2 : chk1A GX (dN DH) 3000 sct_M_reaches8 sw_M_reaches8 shn_M_reaches1 slb_M_reaches8 [] san_M_reaches8 a1_M_reaches8_2 = true := by decide +kernel
theorem ks_M_reaches8_3 : chk1A GX (dN DH) 3000 sct_M_reaches8 sw_M_reaches8 shn_M_reaches1 slb_M_reaches8 [] san_M_reaches8 a1_M_reaches8_3 = true := by decide +kernel
theorem ks_M_reaches8_4 : chk1A GX (dN DH) 3000 sct_M_reaches8 sw_M_reaches8 shn_M_reaches1 slb_M_reaches8 [] san_M_reaches8 a1_M_reaches8_4 = true := by decide +kernel
theorem ks_M_reaches8_5 : chk1A GX (dN DH) 3000 sct_M_reaches8 sw_M_reaches8 shn_M_reaches1 slb_M_reaches8 [] san_M_reaches8 a1_M_reaches8_5 = true := by decide +kernel
theorem k2_next_r : chk2 GX pc_next DH 3000 r2_next = true := by decide +kernel
theorem ks_M_reaches9_r : chk1E GX (dN DH) 3000 318 sct_M_reaches9 sw_M_reaches9 shn_M_reaches1 slb_M_reaches9 [] san_M_reaches9 100000 = true := by decide +kernel
theorem ks_M_reaches9_0 : chk1A GX (dN DH) 3000 sct_M_reaches9 sw_M_reaches9 shn_M_reaches1 slb_M_reaches9 [] san_M_reaches9 a1_M_reaches9_0 = true := by decide +kernel
theorem ks_M_reaches9_1 : chk1A GX (dN DH) 3000 sct_M_reaches9 sw_M_reaches9 shn_M_reaches1 slb_M_reaches9 [] san_M_reaches9 a1_M_reaches9_1 = true := by decide +kernel
theorem ks_M_reaches9_2 : chk1A GX (dN DH) 3000 sct_M_reaches9 sw_M_reaches9 shn_M_reaches1 slb_M_reaches9 [] san_M_reaches9 a1_M_reaches9_2 = true := by decide +kernel
theorem ks_M_reaches9_3 : chk1A GX (dN DH) 3000 sct_M_reaches9 sw_M_reaches9 shn_M_reaches1 slb_M_reaches9 [] san_M_reaches9 a1_M_reaches9_3 = true := by decide +kernel
theorem ks_M_reaches9_4 : chk1A GX (dN DH) 3000 sct_M_reaches9 sw_M_reaches9 shn_M_reaches1 slb_M_reaches9 [] san_M_reaches9 a1_M_reaches9_4 = true := by decide +kernel
