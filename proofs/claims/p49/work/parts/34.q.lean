theorem ks_M_keepsTies6_2 : chk1A GX (dN DH) 3000 sct_M_keepsTies6 sw_M_keepsTies6 shn_M_keepsTies0 slb_M_keepsTies6 [] san_M_keepsTies6 a1_M_keepsTies6_2 = true := by decide +kernel
theorem ks_M_reaches10_r : chk1E GX (dN DH) 3000 318 sct_M_reaches10 sw_M_reaches10 shn_M_reaches1 slb_M_reaches10 [] san_M_reaches10 100000 = true := by decide +kernel
theorem ks_M_reaches10_0 : chk1A GX (dN DH) 3000 sct_M_reaches10 sw_M_reaches10 shn_M_reaches1 slb_M_reaches10 [] san_M_reaches10 a1_M_reaches10_0 = true := by decide +kernel
theorem ks_M_reaches10_1 : chk1A GX (dN DH) 3000 sct_M_reaches10 sw_M_reaches10 shn_M_reaches1 slb_M_reaches10 [] san_M_reaches10 a1_M_reaches10_1 = true := by decide +kernel
theorem ks_M_reaches10_2 : chk1A GX (dN DH) 3000 sct_M_reaches10 sw_M_reaches10 shn_M_reaches1 slb_M_reaches10 [] san_M_reaches10 a1_M_reaches10_2 = true := by decide +kernel
theorem ks_M_reaches10_3 : chk1A GX (dN DH) 3000 sct_M_reaches10 sw_M_reaches10 shn_M_reaches1 slb_M_reaches10 [] san_M_reaches10 a1_M_reaches10_3 = true := by decide +kernel
theorem ks_M_reaches10_4 : chk1A GX (dN DH) 3000 sct_M_reaches10 sw_M_reaches10 shn_M_reaches1 slb_M_reaches10 [] san_M_reaches10 a1_M_reaches10_4 = true := by decide +kernel
theorem ks_M_reaches10_5 : chk1A GX (dN DH) 3000 sct_M_reaches10 sw_M_reaches10 shn_M_reaches1 slb_M_reaches10 [] san_M_reaches10 a1_M_reaches10_5 = true := by decide +kernel
theorem ks_M_keepsTies7_r : chk1E GX (dN DH) 3000 418 sct_M_keepsTies7 sw_M_keepsTies7 shn_M_keepsTies0 slb_M_keepsTies7 [] san_M_keepsTies7 100000 = true := by decide +kernel
theorem ks_M_keepsTies7_0 : chk1A GX (dN DH) 3000 sct_M_keepsTies7 sw_M_keepsTies7 shn_M_keepsTies0 slb_M_keepsTies7 [] san_M_keepsTies7 a1_M_keepsTies7_0 = true := by decide +kernel
theorem ks_M_keepsTies7_1 : chk1A GX (dN DH) 3000 sct_M_keepsTies7 sw_M_keepsTies7 shn_M_keepsTies0 slb_M_keepsTies7 [] san_M_keepsTies7 a1_M_keepsTies7_1 = true := by decide +kernel
theorem ks_M_keepsTies7_2 : chk1A GX (dN DH) 3000 sct_M_keepsTies7 sw_M_keepsTies7 shn_M_keepsTies0 slb_M_keepsTies7 [] san_M_keepsTies7 a1_M_keepsTies7_2 = true := by decide +kernel
theorem ks_M_searches3_r : chk1E GX (dN DH) 3000 419 sct_M_searches3 sw_M_searches3 shn_M_searches0 slb_M_searches3 sn_M_searches3 san_M_searches3 1000000000 = true := by decide +kernel
theorem ks_M_searches3_0 : chk1A GX (dN DH) 3000 sct_M_searches3 sw_M_searches3 shn_M_searches0 slb_M_searches3 sn_M_searches3 san_M_searches3 a1_M_searches3_0 = true := by decide +kernel
theorem ks_M_searches3_1 : chk1A GX (dN DH) 3000 sct_M_searches3 sw_M_searches3 shn_M_searches0 slb_M_searches3 sn_M_searches3 san_M_searches3 a1_M_searches3_1 = true := by decide +kernel
theorem ks_M_searches3_2 : chk1A GX (dN DH) 3000 sct_M_searches3 sw_M_searches3 shn_M_searches0 slb_M_searches3 sn_M_searches3 san_M_searches3 a1_M_searches3_2 = true := by decide +kernel
theorem ks_M_searches3_3 : chk1A GX (dN DH) 3000 sct_M_searches3 sw_M_searches3 shn_M_searches0 slb_M_searches3 sn_M_searches3 san_M_searches3 a1_M_searches3_3 = true := by decide +kernel
theorem ks_M_searches3_4 : chk1A GX (dN DH) 3000 sct_M_searches3 sw_M_searches3 shn_M_searches0 slb_M_searches3 sn_M_searches3 san_M_searches3 a1_M_searches3_4 = true := by decide +kernel
theorem ks_M_searches3_5 : chk1A GX (dN DH) 3000 sct_M_searches3 sw_M_searches3 shn_M_searches0 slb_M_searches3 sn_M_searches3 san_M_searches3 a1_M_searches3_5 = true := by decide +kernel
theorem ks_M_searches3_6 : chk1A GX (dN DH) 3000 sct_M_searches3 sw_M_searches3 shn_M_searches0 slb_M_searches3 sn_M_searches3 san_M_searches3 a1_M_searches3_6 = true := by decide +kernel
