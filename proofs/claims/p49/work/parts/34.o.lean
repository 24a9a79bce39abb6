theorem ks_M_keepsTies3_1 : chk1A GX (dN DH) 3000 sct_M_keepsTies3 sw_M_keepsTies3 shn_M_keepsTies0 slb_M_keepsTies3 [] san_M_keepsTies3 a1_M_keepsTies3_1 = true := by decide +kernel
theorem ks_M_keepsTies3_2 : chk1A GX (dN DH) 3000 sct_M_keepsTies3 sw_M_keepsTies3 shn_M_keepsTies0 slb_M_keepsTies3 [] san_M_keepsTies3 a1_M_keepsTies3_2 = true := by decide +kernel
theorem ks_M_searches1_r : chk1E GX (dN DH) 3000 419 sct_M_searches1 sw_M_searches1 shn_M_searches0 slb_M_searches1 sn_M_searches1 san_M_searches1 1000000000 = true := by decide +kernel
theorem ks_M_searches1_0 : chk1A GX (dN DH) 3000 sct_M_searches1 sw_M_searches1 shn_M_searches0 slb_M_searches1 sn_M_searches1 san_M_searches1 a1_M_searches1_0 = true := by decide +kernel
theorem ks_M_searches1_1 : chk1A GX (dN DH) 3000 sct_M_searches1 sw_M_searches1 shn_M_searches0 slb_M_searches1 sn_M_searches1 san_M_searches1 a1_M_searches1_1 = true := by decide +kernel
theorem ks_M_searches1_2 : chk1A GX (dN DH) 3000 sct_M_searches1 sw_M_searches1 shn_M_searches0 slb_M_searches1 sn_M_searches1 san_M_searches1 a1_M_searches1_2 = true := by decide +kernel
theorem ks_M_searches1_3 : chk1A GX (dN DH) 3000 sct_M_searches1 sw_M_searches1 shn_M_searches0 slb_M_searches1 sn_M_searches1 san_M_searches1 a1_M_searches1_3 = true := by decide +kernel
theorem ks_M_searches1_4 : chk1A GX (dN DH) 3000 sct_M_searches1 sw_M_searches1 shn_M_searches0 slb_M_searches1 sn_M_searches1 san_M_searches1 a1_M_searches1_4 = true := by decide +kernel
theorem ks_M_searches1_5 : chk1A GX (dN DH) 3000 sct_M_searches1 sw_M_searches1 shn_M_searches0 slb_M_searches1 sn_M_searches1 san_M_searches1 a1_M_searches1_5 = true := by decide +kernel
theorem ks_M_searches1_6 : chk1A GX (dN DH) 3000 sct_M_searches1 sw_M_searches1 shn_M_searches0 slb_M_searches1 sn_M_searches1 san_M_searches1 a1_M_searches1_6 = true := by decide +kernel
theorem ks_M_reaches6_r : chk1E GX (dN DH) 3000 318 sct_M_reaches6 sw_M_reaches6 shn_M_reaches1 slb_M_reaches6 [] san_M_reaches6 100000 = true := by decide +kernel
theorem ks_M_reaches6_0 : chk1A GX (dN DH) 3000 sct_M_reaches6 sw_M_reaches6 shn_M_reaches1 slb_M_reaches6 [] san_M_reaches6 a1_M_reaches6_0 = true := by decide +kernel
theorem ks_M_reaches6_1 : chk1A GX (dN DH) 3000 sct_M_reaches6 sw_M_reaches6 shn_M_reaches1 slb_M_reaches6 [] san_M_reaches6 a1_M_reaches6_1 = true := by decide +kernel
theorem ks_M_reaches6_2 : chk1A GX (dN DH) 3000 sct_M_reaches6 sw_M_reaches6 shn_M_reaches1 slb_M_reaches6 [] san_M_reaches6 a1_M_reaches6_2 = true := by decide +kernel
theorem ks_M_reaches6_3 : chk1A GX (dN DH) 3000 sct_M_reaches6 sw_M_reaches6 shn_M_reaches1 slb_M_reaches6 [] san_M_reaches6 a1_M_reaches6_3 = true := by decide +kernel
theorem ks_M_reaches6_4 : chk1A GX (dN DH) 3000 sct_M_reaches6 sw_M_reaches6 shn_M_reaches1 slb_M_reaches6 [] san_M_reaches6 a1_M_reaches6_4 = true := by decide +kernel
theorem ks_M_reaches6_5 : chk1A GX (dN DH) 3000 sct_M_reaches6 sw_M_reaches6 shn_M_reaches1 slb_M_reaches6 [] san_M_reaches6 a1_M_reaches6_5 = true := by decide +kernel
theorem ks_M_setDone2_r : chk1E GX (dN DH) 3000 420 sct_M_setDone2 sw_M_setDone2 shn_M_setDone0 slb_M_setDone2 [] san_M_setDone2 100000 = true := by decide +kernel
theorem ks_M_setDone2_0 : chk1A GX (dN DH) 3000 sct_M_setDone2 sw_M_setDone2 shn_M_setDone0 slb_M_setDone2 [] san_M_setDone2 a1_M_setDone2_0 = true := by decide +kernel
theorem ks_M_setDone2_1 : chk1A GX (dN DH) 3000 sct_M_setDone2 sw_M_setDone2 shn_M_setDone0 slb_M_setDone2 [] san_M_setDone2 a1_M_setDone2_1 = true := by decide +kernel
theorem ks_M_keepsTies4_r : chk1E GX (dN DH) 3000 418 sct_M_keepsTies4 sw_M_keepsTies4 shn_M_keepsTies0 slb_M_keepsTies4 [] san_M_keepsTies4 100000 = true := by decide +kernel
theorem ks_M_keepsTies4_0 : chk1A GX (dN DH) 3000 sct_M_keepsTies4 sw_M_keepsTies4 shn_M_keepsTies0 slb_M_keepsTies4 [] san_M_keepsTies4 a1_M_keepsTies4_0 = true := by decide +kernel
theorem ks_M_keepsTies4_1 : chk1A GX (dN DH) 3000 sct_M_keepsTies4 sw_M_keepsTies4 shn_M_keepsTies0 slb_M_keepsTies4 [] san_M_keepsTies4 a1_M_keepsTies4_1 = true := by decide +kernel
theorem ks_M_keepsTies4_2 : chk1A GX (dN DH) 3000 sct_M_keepsTies4 sw_M_keepsTies4 shn_M_keepsTies0 slb_M_keepsTies4 [] san_M_keepsTies4 a1_M_keepsTies4_2 = true := by decide +kernel
theorem ks_M_reaches7_r : chk1E GX (dN DH) 3000 318 sct_M_reaches7 sw_M_reaches7 shn_M_reaches1 slb_M_reaches7 [] san_M_reaches7 100000 = true := by decide +kernel
theorem ks_M_reaches7_0 : chk1A GX (dN DH) 3000 sct_M_reaches7 sw_M_reaches7 shn_M_reaches1 slb_M_reaches7 [] san_M_reaches7 a1_M_reaches7_0 = true := by decide +kernel
theorem ks_M_reaches7_1 : chk1A GX (dN DH) 3000 sct_M_reaches7 sw_M_reaches7 shn_M_reaches1 slb_M_reaches7 [] san_M_reaches7 a1_M_reaches7_1 = true := by decide +kernel
theorem ks_M_reaches7_2 : chk1A GX (dN DH) 3000 sct_M_reaches7 sw_M_reaches7 shn_M_reaches1 slb_M_reaches7 [] san_M_reaches7 a1_M_reaches7_2 = true := by decide +kernel
theorem ks_M_reaches7_3 : chk1A GX (dN DH) 3000 sct_M_reaches7 sw_M_reaches7 shn_M_reaches1 slb_M_reaches7 [] san_M_reaches7 a1_M_reaches7_3 = true := by decide +kernel
theorem ks_M_reaches7_4 : chk1A GX (dN DH) 3000 sct_M_reaches7 sw_M_reaches7 shn_M_reaches1 slb_M_reaches7 [] san_M_reaches7 a1_M_reaches7_4 = true := by decide +kernel
theorem ks_M_reaches7_5 : chk1A GX (dN DH) 3000 sct_M_reaches7 sw_M_reaches7 shn_M_reaches1 slb_M_reaches7 [] san_M_reaches7 a1_M_reaches7_5 = true := by decide +kernel
theorem ks_M_keepsTies5_r : chk1E GX (dN DH) 3000 418 sct_M_keepsTies5 sw_M_keepsTies5 shn_M_keepsTies0 slb_M_keepsTies5 [] san_M_keepsTies5 100000 = true := by decide +kernel
theorem ks_M_keepsTies5_0 : chk1A GX (dN DH) 3000 sct_M_keepsTies5 sw_M_keepsTies5 shn_M_keepsTies0 slb_M_keepsTies5 [] san_M_keepsTies5 a1_M_keepsTies5_0 = true := by decide +kernel
theorem ks_M_keepsTies5_1 : chk1A GX (dN DH) 3000 sct_M_keepsTies5 sw_M_keepsTies5 shn_M_keepsTies0 slb_M_keepsTies5 [] san_M_keepsTies5 a1_M_keepsTies5_1 = true := by decide +kernel
theorem ks_M_keepsTies5_2 : chk1A GX (dN DH) 3000 sct_M_keepsTies5 sw_M_keepsTies5 shn_M_keepsTies0 slb_M_keepsTies5 [] san_M_keepsTies5 a1_M_keepsTies5_2 = true := by decide +kernel
theorem ks_M_searches2_r : chk1E GX (dN DH) 3000 419 sct_M_searches2 sw_M_searches2 shn_M_searches0 slb_M_searches2 sn_M_searches2 san_M_searches2 1000000000 = true := by decide +kernel
theorem ks_M_searches2_0 : chk1A GX (dN DH) 3000 sct_M_searches2 sw_M_searches2 shn_M_searches0 slb_M_searches2 sn_M_searches2 san_M_searches2 a1_M_searches2_0 = true := by decide +kernel
theorem ks_M_searches2_1 : chk1A GX (dN DH) 3000 sct_M_searches2 sw_M_searches2 shn_M_searches0 slb_M_searches2 sn_M_searches2 san_M_searches2 a1_M_searches2_1 = true := by decide +kernel
theorem ks_M_searches2_2 : chk1A GX (dN DH) 3000 sct_M_searches2 sw_M_searches2 shn_M_searches0 slb_M_searches2 sn_M_searches2 san_M_searches2 a1_M_searches2_2 = true := by decide +kernel
theorem ks_M_searches2_3 : chk1A GX (dN DH) 3000 sct_M_searches2 sw_M_searches2 shn_M_searches0 slb_M_searches2 sn_M_searches2 san_M_searches2 a1_M_searches2_3 = true := by decide +kernel
theorem ks_M_searches2_4 : chk1A GX (dN DH) 3000 sct_M_searches2 sw_M_searches2 shn_M_searches0 slb_M_searches2 sn_M_searches2 san_M_searches2 a1_M_searches2_4 = true := by decide +kernel
theorem ks_M_searches2_5 : chk1A GX (dN DH) 3000 sct_M_searches2 sw_M_searches2 shn_M_searches0 slb_M_searches2 sn_M_searches2 san_M_searches2 a1_M_searches2_5 = true := by decide +kernel
theorem ks_M_searches2_6 : chk1A GX (dN DH) 3000 sct_M_searches2 sw_M_searches2 shn_M_searches0 slb_M_searches2 sn_M_searches2 san_M_searches2 a1_M_searches2_6 = true := by decide +kernel
theorem ks_M_reaches8_r : chk1E GX (dN DH) 3000 318 sct_M_reaches8 sw_M_reaches8 shn_M_reaches1 slb_M_reaches8 [] san_M_reaches8 100000 = true := by decide +kernel
theorem ks_M_reaches8_0 : chk1A GX (dN DH) 3000 sct_M_reaches8 sw_M_reaches8 shn_M_reaches1 slb_M_reaches8 [] san_M_reaches8 a1_M_reaches8_0 = true := by decide +kernel
theorem ks_M_reaches8_1 : chk1A GX (dN DH) 3000 sct_M_reaches8 sw_M_reaches8 shn_M_reaches1 slb_M_reaches8 [] san_M_reaches8 a1_M_reaches8_1 = true := by decide +kernel
theorem ks_M_reaches8_2 : chk1A GX (dN DH) 3000 sct_M_reaches8 sw_M_reaches8 shn_M_reaches1 slb_M_reaches8 [] san_M_reaches8 a1_M_reaches8_2 = true := by decide +kernel
theorem ks_M_reaches8_3 : chk1A GX (dN DH) 3000 sct_M_reaches8 sw_M_reaches8 shn_M_reaches1 slb_M_reaches8 [] san_M_reaches8 a1_M_reaches8_3 = true := by decide +kernel
theorem ks_M_reaches8_4 : chk1A GX (dN DH) 3000 sct_M_reaches8 sw_M_reaches8 shn_M_reaches1 slb_M_reaches8 [] san_M_reaches8 a1_M_reaches8_4 = true := by decide +kernel
