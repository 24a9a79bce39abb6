theorem ks_M_grow0_5 : chk1A GX (dN DH) 3000 sct_M_grow0 sw_M_grow0 shn_M_grow0 slb_M_grow0 [] san_M_grow0 a1_M_grow0_5 = true := by decide +kernel
theorem ks_M_grow0_6 : chk1A GX (dN DH) 3000 sct_M_grow0 sw_M_grow0 shn_M_grow0 slb_M_grow0 [] san_M_grow0 a1_M_grow0_6 = true := by decide +kernel
