theorem k2_ever_r : chk2 GX pc_ever DH 3000 r2_ever = true := by decide +kernel
theorem k2_ever_0 : chk2 GX pc_ever DH 3000 a2_ever_0 = true := by decide +kernel
theorem k2_ever_1 : chk2 GX pc_ever DH 3000 a2_ever_1 = true := by decide +kernel
theorem ks_M_grow1_r : chk1E GX (dN DH) 3000 439 sct_M_grow1 sw_M_grow1 shn_M_grow0 slb_M_grow1 [] san_M_grow1 1000000000 = true := by decide +kernel
theorem ks_M_grow1_0 : chk1A GX (dN DH) 3000 sct_M_grow1 sw_M_grow1 shn_M_grow0 slb_M_grow1 [] san_M_grow1 a1_M_grow1_0 = true := by decide +kernel
theorem ks_M_grow1_1 : chk1A GX (dN DH) 3000 sct_M_grow1 sw_M_grow1 shn_M_grow0 slb_M_grow1 [] san_M_grow1 a1_M_grow1_1 = true := by decide +kernel
theorem ks_M_grow1_2 : chk1A GX (dN DH) 3000 sct_M_grow1 sw_M_grow1 shn_M_grow0 slb_M_grow1 [] san_M_grow1 a1_M_grow1_2 = true := by decide +kernel
theorem ks_M_grow1_3 : chk1A GX (dN DH) 3000 sct_M_grow1 sw_M_grow1 shn_M_grow0 slb_M_grow1 [] san_M_grow1 a1_M_grow1_3 = true := by decide +kernel
theorem ks_M_grow1_4 : chk1A GX (dN DH) 3000 sct_M_grow1 sw_M_grow1 shn_M_grow0 slb_M_grow1 [] san_M_grow1 a1_M_grow1_4 = true := by decide +kernel
