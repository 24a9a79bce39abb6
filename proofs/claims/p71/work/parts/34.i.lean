theorem ks_M_tellsOne2_12 : chk1A GX (dN DH) 3000 sct_M_tellsOne2 sw_M_tellsOne2 shn_M_tellsOne2 slb_M_tellsOne2 [] san_M_tellsOne2 a1_M_tellsOne2_12 = true := by decide +kernel
theorem ks_M_tellsOne2_13 : chk1A GX (dN DH) 3000 sct_M_tellsOne2 sw_M_tellsOne2 shn_M_tellsOne2 slb_M_tellsOne2 [] san_M_tellsOne2 a1_M_tellsOne2_13 = true := by decide +kernel
theorem ks_M_tellsOne2_14 : chk1A GX (dN DH) 3000 sct_M_tellsOne2 sw_M_tellsOne2 shn_M_tellsOne2 slb_M_tellsOne2 [] san_M_tellsOne2 a1_M_tellsOne2_14 = true := by decide +kernel
theorem ks_M_tellsOne2_15 : chk1A GX (dN DH) 3000 sct_M_tellsOne2 sw_M_tellsOne2 shn_M_tellsOne2 slb_M_tellsOne2 [] san_M_tellsOne2 a1_M_tellsOne2_15 = true := by decide +kernel
theorem ks_M_link5_r : chk1E GX (dN DH) 3000 459 sct_M_link5 sw_M_link5 shn_M_link0 slb_M_link5 [] san_M_link5 1000000000 = true := by decide +kernel
theorem ks_M_link5_0 : chk1A GX (dN DH) 3000 sct_M_link5 sw_M_link5 shn_M_link0 slb_M_link5 [] san_M_link5 a1_M_link5_0 = true := by decide +kernel
theorem ks_M_link5_1 : chk1A GX (dN DH) 3000 sct_M_link5 sw_M_link5 shn_M_link0 slb_M_link5 [] san_M_link5 a1_M_link5_1 = true := by decide +kernel
theorem ks_M_link5_2 : chk1A GX (dN DH) 3000 sct_M_link5 sw_M_link5 shn_M_link0 slb_M_link5 [] san_M_link5 a1_M_link5_2 = true := by decide +kernel
theorem ks_M_link5_3 : chk1A GX (dN DH) 3000 sct_M_link5 sw_M_link5 shn_M_link0 slb_M_link5 [] san_M_link5 a1_M_link5_3 = true := by decide +kernel
theorem ks_M_link5_4 : chk1A GX (dN DH) 3000 sct_M_link5 sw_M_link5 shn_M_link0 slb_M_link5 [] san_M_link5 a1_M_link5_4 = true := by decide +kernel
theorem ks_M_link5_5 : chk1A GX (dN DH) 3000 sct_M_link5 sw_M_link5 shn_M_link0 slb_M_link5 [] san_M_link5 a1_M_link5_5 = true := by decide +kernel
theorem ks_M_link5_6 : chk1A GX (dN DH) 3000 sct_M_link5 sw_M_link5 shn_M_link0 slb_M_link5 [] san_M_link5 a1_M_link5_6 = true := by decide +kernel
theorem ks_M_link5_7 : chk1A GX (dN DH) 3000 sct_M_link5 sw_M_link5 shn_M_link0 slb_M_link5 [] san_M_link5 a1_M_link5_7 = true := by decide +kernel
theorem ks_M_link5_8 : chk1A GX (dN DH) 3000 sct_M_link5 sw_M_link5 shn_M_link0 slb_M_link5 [] san_M_link5 a1_M_link5_8 = true := by decide +kernel
theorem ks_M_link5_9 : chk1A GX (dN DH) 3000 sct_M_link5 sw_M_link5 shn_M_link0 slb_M_link5 [] san_M_link5 a1_M_link5_9 = true := by decide +kernel
theorem ks_M_link5_10 : chk1A GX (dN DH) 3000 sct_M_link5 sw_M_link5 shn_M_link0 slb_M_link5 [] san_M_link5 a1_M_link5_10 = true := by decide +kernel
theorem ks_M_link6_r : chk1E GX (dN DH) 3000 459 sct_M_link6 sw_M_link6 shn_M_link0 slb_M_link6 [] san_M_link6 1000000000 = true := by decide +kernel
theorem ks_M_link6_0 : chk1A GX (dN DH) 3000 sct_M_link6 sw_M_link6 shn_M_link0 slb_M_link6 [] san_M_link6 a1_M_link6_0 = true := by decide +kernel
theorem ks_M_link6_1 : chk1A GX (dN DH) 3000 sct_M_link6 sw_M_link6 shn_M_link0 slb_M_link6 [] san_M_link6 a1_M_link6_1 = true := by decide +kernel
theorem ks_M_link6_2 : chk1A GX (dN DH) 3000 sct_M_link6 sw_M_link6 shn_M_link0 slb_M_link6 [] san_M_link6 a1_M_link6_2 = true := by decide +kernel
theorem ks_M_link6_3 : chk1A GX (dN DH) 3000 sct_M_link6 sw_M_link6 shn_M_link0 slb_M_link6 [] san_M_link6 a1_M_link6_3 = true := by decide +kernel
theorem ks_M_link6_4 : chk1A GX (dN DH) 3000 sct_M_link6 sw_M_link6 shn_M_link0 slb_M_link6 [] san_M_link6 a1_M_link6_4 = true := by decide +kernel
theorem ks_M_link6_5 : chk1A GX (dN DH) 3000 sct_M_link6 sw_M_link6 shn_M_link0 slb_M_link6 [] san_M_link6 a1_M_link6_5 = true := by decide +kernel
theorem ks_M_link6_6 : chk1A GX (dN DH) 3000 sct_M_link6 sw_M_link6 shn_M_link0 slb_M_link6 [] san_M_link6 a1_M_link6_6 = true := by decide +kernel
theorem ks_M_link6_7 : chk1A GX (dN DH) 3000 sct_M_link6 sw_M_link6 shn_M_link0 slb_M_link6 [] san_M_link6 a1_M_link6_7 = true := by decide +kernel
theorem ks_M_link6_8 : chk1A GX (dN DH) 3000 sct_M_link6 sw_M_link6 shn_M_link0 slb_M_link6 [] san_M_link6 a1_M_link6_8 = true := by decide +kernel
theorem ks_M_link6_9 : chk1A GX (dN DH) 3000 sct_M_link6 sw_M_link6 shn_M_link0 slb_M_link6 [] san_M_link6 a1_M_link6_9 = true := by decide +kernel
theorem ks_M_link6_10 : chk1A GX (dN DH) 3000 sct_M_link6 sw_M_link6 shn_M_link0 slb_M_link6 [] san_M_link6 a1_M_link6_10 = true := by decide +kernel
theorem ks_M_tellsOne3_r : chk1E GX (dN DH) 3000 462 sct_M_tellsOne3 sw_M_tellsOne3 shn_M_tellsOne2 slb_M_tellsOne3 [] san_M_tellsOne3 1000000000 = true := by decide +kernel
theorem ks_M_tellsOne3_0 : chk1A GX (dN DH) 3000 sct_M_tellsOne3 sw_M_tellsOne3 shn_M_tellsOne2 slb_M_tellsOne3 [] san_M_tellsOne3 a1_M_tellsOne3_0 = true := by decide +kernel
theorem ks_M_tellsOne3_1 : chk1A GX (dN DH) 3000 sct_M_tellsOne3 sw_M_tellsOne3 shn_M_tellsOne2 slb_M_tellsOne3 [] san_M_tellsOne3 a1_M_tellsOne3_1 = true := by decide +kernel
theorem ks_M_tellsOne3_2 : chk1A GX (dN DH) 3000 sct_M_tellsOne3 sw_M_tellsOne3 shn_M_tellsOne2 slb_M_tellsOne3 [] san_M_tellsOne3 a1_M_tellsOne3_2 = true := by decide +kernel
theorem ks_M_tellsOne3_3 : chk1A GX (dN DH) 3000 sct_M_tellsOne3 sw_M_tellsOne3 shn_M_tellsOne2 slb_M_tellsOne3 [] san_M_tellsOne3 a1_M_tellsOne3_3 = true := by decide +kernel
theorem ks_M_tellsOne3_4 : chk1A GX (dN DH) 3000 sct_M_tellsOne3 sw_M_tellsOne3 shn_M_tellsOne2 slb_M_tellsOne3 [] san_M_tellsOne3 a1_M_tellsOne3_4 = true := by decide +kernel
