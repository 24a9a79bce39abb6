theorem k2_key_r : chk2 GX pc_key DH 3000 r2_key = true := by decide +kernel
theorem ks_Le_countGains0_r : chk1E GX DH 3000 213 sct_Le_countGains0 sw_Le_countGains0 shn_Le_countGains0 slb_Le_countGains0 [] san_Le_countGains0 1000000000 = true := by decide +kernel
theorem ks_Le_countGains0_0 : chk1A GX DH 3000 sct_Le_countGains0 sw_Le_countGains0 shn_Le_countGains0 slb_Le_countGains0 [] san_Le_countGains0 a1_Le_countGains0_0 = true := by decide +kernel
theorem ks_Le_countGains0_1 : chk1A GX DH 3000 sct_Le_countGains0 sw_Le_countGains0 shn_Le_countGains0 slb_Le_countGains0 [] san_Le_countGains0 a1_Le_countGains0_1 = true := by decide +kernel
theorem ks_Le_countGains0_2 : chk1A GX DH 3000 sct_Le_countGains0 sw_Le_countGains0 shn_Le_countGains0 slb_Le_countGains0 [] san_Le_countGains0 a1_Le_countGains0_2 = true := by decide +kernel
theorem ks_Le_countGains0_3 : chk1A GX DH 3000 sct_Le_countGains0 sw_Le_countGains0 shn_Le_countGains0 slb_Le_countGains0 [] san_Le_countGains0 a1_Le_countGains0_3 = true := by decide +kernel
theorem ks_Le_countGains0_4 : chk1A GX DH 3000 sct_Le_countGains0 sw_Le_countGains0 shn_Le_countGains0 slb_Le_countGains0 [] san_Le_countGains0 a1_Le_countGains0_4 = true := by decide +kernel
theorem ks_M_grow0_r : chk1E GX (dN DH) 3000 439 sct_M_grow0 sw_M_grow0 shn_M_grow0 slb_M_grow0 [] san_M_grow0 1000000000 = true := by decide +kernel
theorem ks_M_grow0_0 : chk1A GX (dN DH) 3000 sct_M_grow0 sw_M_grow0 shn_M_grow0 slb_M_grow0 [] san_M_grow0 a1_M_grow0_0 = true := by decide +kernel
theorem ks_M_grow0_1 : chk1A GX (dN DH) 3000 sct_M_grow0 sw_M_grow0 shn_M_grow0 slb_M_grow0 [] san_M_grow0 a1_M_grow0_1 = true := by decide +kernel
theorem ks_M_grow0_2 : chk1A GX (dN DH) 3000 sct_M_grow0 sw_M_grow0 shn_M_grow0 slb_M_grow0 [] san_M_grow0 a1_M_grow0_2 = true := by decide +kernel
theorem ks_M_grow0_3 : chk1A GX (dN DH) 3000 sct_M_grow0 sw_M_grow0 shn_M_grow0 slb_M_grow0 [] san_M_grow0 a1_M_grow0_3 = true := by decide +kernel
theorem ks_M_grow0_4 : chk1A GX (dN DH) 3000 sct_M_grow0 sw_M_grow0 shn_M_grow0 slb_M_grow0 [] san_M_grow0 a1_M_grow0_4 = true := by decide +kernel
