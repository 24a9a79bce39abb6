theorem ks_M_grow1_7 : chk1A GX (dN DH) 3000 sct_M_grow1 sw_M_grow1 shn_M_grow0 slb_M_grow1 [] san_M_grow1 a1_M_grow1_7 = true := by decide +kernel
theorem ks_M_grow1_8 : chk1A GX (dN DH) 3000 sct_M_grow1 sw_M_grow1 shn_M_grow0 slb_M_grow1 [] san_M_grow1 a1_M_grow1_8 = true := by decide +kernel
