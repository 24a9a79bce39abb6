theorem ks_M_grow1_5 : chk1A GX (dN DH) 3000 sct_M_grow1 sw_M_grow1 shn_M_grow0 slb_M_grow1 [] san_M_grow1 a1_M_grow1_5 = true := by decide +kernel
theorem ks_M_grow1_6 : chk1A GX (dN DH) 3000 sct_M_grow1 sw_M_grow1 shn_M_grow0 slb_M_grow1 [] san_M_grow1 a1_M_grow1_6 = true := by decide +kernel
