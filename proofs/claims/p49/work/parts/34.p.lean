theorem ks_M_reaches8_5 : chk1A GX (dN DH) 3000 sct_M_reaches8 sw_M_reaches8 shn_M_reaches1 slb_M_reaches8 [] san_M_reaches8 a1_M_reaches8_5 = true := by decide +kernel
theorem k2_next_r : chk2 GX pc_next DH 3000 r2_next = true := by decide +kernel
theorem ks_M_reaches9_r : chk1E GX (dN DH) 3000 318 sct_M_reaches9 sw_M_reaches9 shn_M_reaches1 slb_M_reaches9 [] san_M_reaches9 100000 = true := by decide +kernel
theorem ks_M_reaches9_0 : chk1A GX (dN DH) 3000 sct_M_reaches9 sw_M_reaches9 shn_M_reaches1 slb_M_reaches9 [] san_M_reaches9 a1_M_reaches9_0 = true := by decide +kernel
theorem ks_M_reaches9_1 : chk1A GX (dN DH) 3000 sct_M_reaches9 sw_M_reaches9 shn_M_reaches1 slb_M_reaches9 [] san_M_reaches9 a1_M_reaches9_1 = true := by decide +kernel
theorem ks_M_reaches9_2 : chk1A GX (dN DH) 3000 sct_M_reaches9 sw_M_reaches9 shn_M_reaches1 slb_M_reaches9 [] san_M_reaches9 a1_M_reaches9_2 = true := by decide +kernel
theorem ks_M_reaches9_3 : chk1A GX (dN DH) 3000 sct_M_reaches9 sw_M_reaches9 shn_M_reaches1 slb_M_reaches9 [] san_M_reaches9 a1_M_reaches9_3 = true := by decide +kernel
theorem ks_M_reaches9_4 : chk1A GX (dN DH) 3000 sct_M_reaches9 sw_M_reaches9 shn_M_reaches1 slb_M_reaches9 [] san_M_reaches9 a1_M_reaches9_4 = true := by decide +kernel
theorem ks_M_reaches9_5 : chk1A GX (dN DH) 3000 sct_M_reaches9 sw_M_reaches9 shn_M_reaches1 slb_M_reaches9 [] san_M_reaches9 a1_M_reaches9_5 = true := by decide +kernel
theorem ks_M_setDone3_r : chk1E GX (dN DH) 3000 420 sct_M_setDone3 sw_M_setDone3 shn_M_setDone0 slb_M_setDone3 [] san_M_setDone3 100000 = true := by decide +kernel
theorem ks_M_setDone3_0 : chk1A GX (dN DH) 3000 sct_M_setDone3 sw_M_setDone3 shn_M_setDone0 slb_M_setDone3 [] san_M_setDone3 a1_M_setDone3_0 = true := by decide +kernel
theorem ks_M_setDone3_1 : chk1A GX (dN DH) 3000 sct_M_setDone3 sw_M_setDone3 shn_M_setDone0 slb_M_setDone3 [] san_M_setDone3 a1_M_setDone3_1 = true := by decide +kernel
theorem ks_M_keepsTies6_r : chk1E GX (dN DH) 3000 418 sct_M_keepsTies6 sw_M_keepsTies6 shn_M_keepsTies0 slb_M_keepsTies6 [] san_M_keepsTies6 100000 = true := by decide +kernel
theorem ks_M_keepsTies6_0 : chk1A GX (dN DH) 3000 sct_M_keepsTies6 sw_M_keepsTies6 shn_M_keepsTies0 slb_M_keepsTies6 [] san_M_keepsTies6 a1_M_keepsTies6_0 = true := by decide +kernel
theorem ks_M_keepsTies6_1 : chk1A GX (dN DH) 3000 sct_M_keepsTies6 sw_M_keepsTies6 shn_M_keepsTies0 slb_M_keepsTies6 [] san_M_keepsTies6 a1_M_keepsTies6_1 = true := by decide +kernel
