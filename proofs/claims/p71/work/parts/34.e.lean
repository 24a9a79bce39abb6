theorem ks_M_tellsOne0_9 : chk1A GX (dN DH) 3000 sct_M_tellsOne0 sw_M_tellsOne0 shn_M_tellsOne0 slb_M_tellsOne0 [] san_M_tellsOne0 a1_M_tellsOne0_9 = true := by decide +kernel
theorem ks_M_tellsOne0_10 : chk1A GX (dN DH) 3000 sct_M_tellsOne0 sw_M_tellsOne0 shn_M_tellsOne0 slb_M_tellsOne0 [] san_M_tellsOne0 a1_M_tellsOne0_10 = true := by decide +kernel
theorem ks_M_tellsOne0_11 : chk1A GX (dN DH) 3000 sct_M_tellsOne0 sw_M_tellsOne0 shn_M_tellsOne0 slb_M_tellsOne0 [] san_M_tellsOne0 a1_M_tellsOne0_11 = true := by decide +kernel
theorem ks_M_tellsOne0_12 : chk1A GX (dN DH) 3000 sct_M_tellsOne0 sw_M_tellsOne0 shn_M_tellsOne0 slb_M_tellsOne0 [] san_M_tellsOne0 a1_M_tellsOne0_12 = true := by decide +kernel
theorem ks_M_tellsOne0_13 : chk1A GX (dN DH) 3000 sct_M_tellsOne0 sw_M_tellsOne0 shn_M_tellsOne0 slb_M_tellsOne0 [] san_M_tellsOne0 a1_M_tellsOne0_13 = true := by decide +kernel
theorem ks_M_tellsOne0_14 : chk1A GX (dN DH) 3000 sct_M_tellsOne0 sw_M_tellsOne0 shn_M_tellsOne0 slb_M_tellsOne0 [] san_M_tellsOne0 a1_M_tellsOne0_14 = true := by decide +kernel
theorem ks_M_tellsOne0_15 : chk1A GX (dN DH) 3000 sct_M_tellsOne0 sw_M_tellsOne0 shn_M_tellsOne0 slb_M_tellsOne0 [] san_M_tellsOne0 a1_M_tellsOne0_15 = true := by decide +kernel
theorem ks_M_link1_r : chk1E GX (dN DH) 3000 459 sct_M_link1 sw_M_link1 shn_M_link1 slb_M_link1 [] san_M_link1 1000000000 = true := by decide +kernel
theorem ks_M_link1_0 : chk1A GX (dN DH) 3000 sct_M_link1 sw_M_link1 shn_M_link1 slb_M_link1 [] san_M_link1 a1_M_link1_0 = true := by decide +kernel
theorem ks_M_link1_1 : chk1A GX (dN DH) 3000 sct_M_link1 sw_M_link1 shn_M_link1 slb_M_link1 [] san_M_link1 a1_M_link1_1 = true := by decide +kernel
theorem ks_M_link1_2 : chk1A GX (dN DH) 3000 sct_M_link1 sw_M_link1 shn_M_link1 slb_M_link1 [] san_M_link1 a1_M_link1_2 = true := by decide +kernel
theorem ks_M_link1_3 : chk1A GX (dN DH) 3000 sct_M_link1 sw_M_link1 shn_M_link1 slb_M_link1 [] san_M_link1 a1_M_link1_3 = true := by decide +kernel
theorem ks_M_link1_4 : chk1A GX (dN DH) 3000 sct_M_link1 sw_M_link1 shn_M_link1 slb_M_link1 [] san_M_link1 a1_M_link1_4 = true := by decide +kernel
theorem ks_M_link1_5 : chk1A GX (dN DH) 3000 sct_M_link1 sw_M_link1 shn_M_link1 slb_M_link1 [] san_M_link1 a1_M_link1_5 = true := by decide +kernel
theorem ks_M_link1_6 : chk1A GX (dN DH) 3000 sct_M_link1 sw_M_link1 shn_M_link1 slb_M_link1 [] san_M_link1 a1_M_link1_6 = true := by decide +kernel
theorem ks_M_link1_7 : chk1A GX (dN DH) 3000 sct_M_link1 sw_M_link1 shn_M_link1 slb_M_link1 [] san_M_link1 a1_M_link1_7 = true := by decide +kernel
theorem ks_M_link1_8 : chk1A GX (dN DH) 3000 sct_M_link1 sw_M_link1 shn_M_link1 slb_M_link1 [] san_M_link1 a1_M_link1_8 = true := by decide +kernel
theorem ks_M_link1_9 : chk1A GX (dN DH) 3000 sct_M_link1 sw_M_link1 shn_M_link1 slb_M_link1 [] san_M_link1 a1_M_link1_9 = true := by decide +kernel
theorem ks_M_link1_10 : chk1A GX (dN DH) 3000 sct_M_link1 sw_M_link1 shn_M_link1 slb_M_link1 [] san_M_link1 a1_M_link1_10 = true := by decide +kernel
theorem ks_M_know1_r : chk1E GX (dN DH) 3000 457 sct_M_know1 sw_M_know1 shn_M_know0 slb_M_know1 [] san_M_know1 1000000 = true := by decide +kernel
theorem ks_M_know1_0 : chk1A GX (dN DH) 3000 sct_M_know1 sw_M_know1 shn_M_know0 slb_M_know1 [] san_M_know1 a1_M_know1_0 = true := by decide +kernel
theorem ks_M_know1_1 : chk1A GX (dN DH) 3000 sct_M_know1 sw_M_know1 shn_M_know0 slb_M_know1 [] san_M_know1 a1_M_know1_1 = true := by decide +kernel
theorem ks_M_tellsOne1_r : chk1E GX (dN DH) 3000 462 sct_M_tellsOne1 sw_M_tellsOne1 shn_M_tellsOne0 slb_M_tellsOne1 [] san_M_tellsOne1 1000000000 = true := by decide +kernel
theorem ks_M_tellsOne1_0 : chk1A GX (dN DH) 3000 sct_M_tellsOne1 sw_M_tellsOne1 shn_M_tellsOne0 slb_M_tellsOne1 [] san_M_tellsOne1 a1_M_tellsOne1_0 = true := by decide +kernel
theorem ks_M_tellsOne1_1 : chk1A GX (dN DH) 3000 sct_M_tellsOne1 sw_M_tellsOne1 shn_M_tellsOne0 slb_M_tellsOne1 [] san_M_tellsOne1 a1_M_tellsOne1_1 = true := by decide +kernel
theorem ks_M_tellsOne1_2 : chk1A GX (dN DH) 3000 sct_M_tellsOne1 sw_M_tellsOne1 shn_M_tellsOne0 slb_M_tellsOne1 [] san_M_tellsOne1 a1_M_tellsOne1_2 = true := by decide +kernel
theorem ks_M_tellsOne1_3 : chk1A GX (dN DH) 3000 sct_M_tellsOne1 sw_M_tellsOne1 shn_M_tellsOne0 slb_M_tellsOne1 [] san_M_tellsOne1 a1_M_tellsOne1_3 = true := by decide +kernel
theorem ks_M_tellsOne1_4 : chk1A GX (dN DH) 3000 sct_M_tellsOne1 sw_M_tellsOne1 shn_M_tellsOne0 slb_M_tellsOne1 [] san_M_tellsOne1 a1_M_tellsOne1_4 = true := by decide +kernel
theorem ks_M_tellsOne1_5 : chk1A GX (dN DH) 3000 sct_M_tellsOne1 sw_M_tellsOne1 shn_M_tellsOne0 slb_M_tellsOne1 [] san_M_tellsOne1 a1_M_tellsOne1_5 = true := by decide +kernel
theorem ks_M_tellsOne1_6 : chk1A GX (dN DH) 3000 sct_M_tellsOne1 sw_M_tellsOne1 shn_M_tellsOne0 slb_M_tellsOne1 [] san_M_tellsOne1 a1_M_tellsOne1_6 = true := by decide +kernel
theorem ks_M_tellsOne1_7 : chk1A GX (dN DH) 3000 sct_M_tellsOne1 sw_M_tellsOne1 shn_M_tellsOne0 slb_M_tellsOne1 [] san_M_tellsOne1 a1_M_tellsOne1_7 = true := by decide +kernel
theorem ks_M_tellsOne1_8 : chk1A GX (dN DH) 3000 sct_M_tellsOne1 sw_M_tellsOne1 shn_M_tellsOne0 slb_M_tellsOne1 [] san_M_tellsOne1 a1_M_tellsOne1_8 = true := by decide +kernel
