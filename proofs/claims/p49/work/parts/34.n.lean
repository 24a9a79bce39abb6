theorem ks_Wo_searchFrom15_r : chk1E GX DH 3000 185 sct_Wo_searchFrom15 sw_Wo_searchFrom15 shn_Wo_searchFrom6 slb_Wo_searchFrom15 sn_Wo_searchFrom15 san_Wo_searchFrom15 100000 = true := by decide +kernel
theorem ks_Wo_searchFrom15_0 : chk1A GX DH 3000 sct_Wo_searchFrom15 sw_Wo_searchFrom15 shn_Wo_searchFrom6 slb_Wo_searchFrom15 sn_Wo_searchFrom15 san_Wo_searchFrom15 a1_Wo_searchFrom15_0 = true := by decide +kernel
theorem ks_Wo_doTiesHold31_r : chk1E GX DH 3000 184 sct_Wo_doTiesHold31 sw_Wo_doTiesHold31 shn_Wo_doTiesHold0 slb_Wo_doTiesHold31 [] san_Wo_doTiesHold31 100000 = true := by decide +kernel
theorem ks_Wo_doTiesHold31_0 : chk1A GX DH 3000 sct_Wo_doTiesHold31 sw_Wo_doTiesHold31 shn_Wo_doTiesHold0 slb_Wo_doTiesHold31 [] san_Wo_doTiesHold31 a1_Wo_doTiesHold31_0 = true := by decide +kernel
theorem ks_Wo_doTiesHold31_1 : chk1A GX DH 3000 sct_Wo_doTiesHold31 sw_Wo_doTiesHold31 shn_Wo_doTiesHold0 slb_Wo_doTiesHold31 [] san_Wo_doTiesHold31 a1_Wo_doTiesHold31_1 = true := by decide +kernel
theorem ks_Wo_doTiesHold31_2 : chk1A GX DH 3000 sct_Wo_doTiesHold31 sw_Wo_doTiesHold31 shn_Wo_doTiesHold0 slb_Wo_doTiesHold31 [] san_Wo_doTiesHold31 a1_Wo_doTiesHold31_2 = true := by decide +kernel
theorem ks_Wo_doTiesHold32_r : chk1E GX DH 3000 184 sct_Wo_doTiesHold32 sw_Wo_doTiesHold32 shn_Wo_doTiesHold0 slb_Wo_doTiesHold32 [] san_Wo_doTiesHold32 100000 = true := by decide +kernel
theorem ks_Wo_doTiesHold32_0 : chk1A GX DH 3000 sct_Wo_doTiesHold32 sw_Wo_doTiesHold32 shn_Wo_doTiesHold0 slb_Wo_doTiesHold32 [] san_Wo_doTiesHold32 a1_Wo_doTiesHold32_0 = true := by decide +kernel
theorem ks_Wo_doTiesHold32_1 : chk1A GX DH 3000 sct_Wo_doTiesHold32 sw_Wo_doTiesHold32 shn_Wo_doTiesHold0 slb_Wo_doTiesHold32 [] san_Wo_doTiesHold32 a1_Wo_doTiesHold32_1 = true := by decide +kernel
theorem ks_Wo_doTiesHold32_2 : chk1A GX DH 3000 sct_Wo_doTiesHold32 sw_Wo_doTiesHold32 shn_Wo_doTiesHold0 slb_Wo_doTiesHold32 [] san_Wo_doTiesHold32 a1_Wo_doTiesHold32_2 = true := by decide +kernel
theorem ks_Wo_searchFrom16_r : chk1E GX DH 3000 185 sct_Wo_searchFrom16 sw_Wo_searchFrom16 shn_Wo_searchFrom7 slb_Wo_searchFrom16 sn_Wo_searchFrom16 san_Wo_searchFrom16 100000 = true := by decide +kernel
theorem ks_Wo_searchFrom16_0 : chk1A GX DH 3000 sct_Wo_searchFrom16 sw_Wo_searchFrom16 shn_Wo_searchFrom7 slb_Wo_searchFrom16 sn_Wo_searchFrom16 san_Wo_searchFrom16 a1_Wo_searchFrom16_0 = true := by decide +kernel
theorem ks_Wo_doTiesHold33_r : chk1E GX DH 3000 184 sct_Wo_doTiesHold33 sw_Wo_doTiesHold33 shn_Wo_doTiesHold0 slb_Wo_doTiesHold33 [] san_Wo_doTiesHold33 100000 = true := by decide +kernel
theorem ks_Wo_doTiesHold33_0 : chk1A GX DH 3000 sct_Wo_doTiesHold33 sw_Wo_doTiesHold33 shn_Wo_doTiesHold0 slb_Wo_doTiesHold33 [] san_Wo_doTiesHold33 a1_Wo_doTiesHold33_0 = true := by decide +kernel
theorem ks_Wo_doTiesHold33_1 : chk1A GX DH 3000 sct_Wo_doTiesHold33 sw_Wo_doTiesHold33 shn_Wo_doTiesHold0 slb_Wo_doTiesHold33 [] san_Wo_doTiesHold33 a1_Wo_doTiesHold33_1 = true := by decide +kernel
theorem ks_Wo_doTiesHold33_2 : chk1A GX DH 3000 sct_Wo_doTiesHold33 sw_Wo_doTiesHold33 shn_Wo_doTiesHold0 slb_Wo_doTiesHold33 [] san_Wo_doTiesHold33 a1_Wo_doTiesHold33_2 = true := by decide +kernel
theorem ks_Wo_doTiesHold34_r : chk1E GX DH 3000 184 sct_Wo_doTiesHold34 sw_Wo_doTiesHold34 shn_Wo_doTiesHold0 slb_Wo_doTiesHold34 [] san_Wo_doTiesHold34 100000 = true := by decide +kernel
theorem ks_Wo_doTiesHold34_0 : chk1A GX DH 3000 sct_Wo_doTiesHold34 sw_Wo_doTiesHold34 shn_Wo_doTiesHold0 slb_Wo_doTiesHold34 [] san_Wo_doTiesHold34 a1_Wo_doTiesHold34_0 = true := by decide +kernel
theorem ks_Wo_doTiesHold34_1 : chk1A GX DH 3000 sct_Wo_doTiesHold34 sw_Wo_doTiesHold34 shn_Wo_doTiesHold0 slb_Wo_doTiesHold34 [] san_Wo_doTiesHold34 a1_Wo_doTiesHold34_1 = true := by decide +kernel
theorem ks_Wo_doTiesHold34_2 : chk1A GX DH 3000 sct_Wo_doTiesHold34 sw_Wo_doTiesHold34 shn_Wo_doTiesHold0 slb_Wo_doTiesHold34 [] san_Wo_doTiesHold34 a1_Wo_doTiesHold34_2 = true := by decide +kernel
theorem ks_Wo_searchFrom17_r : chk1E GX DH 3000 185 sct_Wo_searchFrom17 sw_Wo_searchFrom17 shn_Wo_searchFrom8 slb_Wo_searchFrom17 sn_Wo_searchFrom17 san_Wo_searchFrom17 100000 = true := by decide +kernel
theorem ks_Wo_searchFrom17_0 : chk1A GX DH 3000 sct_Wo_searchFrom17 sw_Wo_searchFrom17 shn_Wo_searchFrom8 slb_Wo_searchFrom17 sn_Wo_searchFrom17 san_Wo_searchFrom17 a1_Wo_searchFrom17_0 = true := by decide +kernel
theorem ks_M_reaches4_r : chk1E GX (dN DH) 3000 318 sct_M_reaches4 sw_M_reaches4 shn_M_reaches1 slb_M_reaches4 [] san_M_reaches4 100000 = true := by decide +kernel
theorem ks_M_reaches4_0 : chk1A GX (dN DH) 3000 sct_M_reaches4 sw_M_reaches4 shn_M_reaches1 slb_M_reaches4 [] san_M_reaches4 a1_M_reaches4_0 = true := by decide +kernel
theorem ks_M_reaches4_1 : chk1A GX (dN DH) 3000 sct_M_reaches4 sw_M_reaches4 shn_M_reaches1 slb_M_reaches4 [] san_M_reaches4 a1_M_reaches4_1 = true := by decide +kernel
theorem ks_M_reaches4_2 : chk1A GX (dN DH) 3000 sct_M_reaches4 sw_M_reaches4 shn_M_reaches1 slb_M_reaches4 [] san_M_reaches4 a1_M_reaches4_2 = true := by decide +kernel
theorem ks_M_reaches4_3 : chk1A GX (dN DH) 3000 sct_M_reaches4 sw_M_reaches4 shn_M_reaches1 slb_M_reaches4 [] san_M_reaches4 a1_M_reaches4_3 = true := by decide +kernel
theorem ks_M_reaches4_4 : chk1A GX (dN DH) 3000 sct_M_reaches4 sw_M_reaches4 shn_M_reaches1 slb_M_reaches4 [] san_M_reaches4 a1_M_reaches4_4 = true := by decide +kernel
theorem ks_M_reaches4_5 : chk1A GX (dN DH) 3000 sct_M_reaches4 sw_M_reaches4 shn_M_reaches1 slb_M_reaches4 [] san_M_reaches4 a1_M_reaches4_5 = true := by decide +kernel
theorem ks_M_setDone1_r : chk1E GX (dN DH) 3000 420 sct_M_setDone1 sw_M_setDone1 shn_M_setDone0 slb_M_setDone1 [] san_M_setDone1 100000 = true := by decide +kernel
theorem ks_M_setDone1_0 : chk1A GX (dN DH) 3000 sct_M_setDone1 sw_M_setDone1 shn_M_setDone0 slb_M_setDone1 [] san_M_setDone1 a1_M_setDone1_0 = true := by decide +kernel
theorem ks_M_setDone1_1 : chk1A GX (dN DH) 3000 sct_M_setDone1 sw_M_setDone1 shn_M_setDone0 slb_M_setDone1 [] san_M_setDone1 a1_M_setDone1_1 = true := by decide +kernel
theorem ks_M_keepsTies2_r : chk1E GX (dN DH) 3000 418 sct_M_keepsTies2 sw_M_keepsTies2 shn_M_keepsTies0 slb_M_keepsTies2 [] san_M_keepsTies2 100000 = true := by decide +kernel
theorem ks_M_keepsTies2_0 : chk1A GX (dN DH) 3000 sct_M_keepsTies2 sw_M_keepsTies2 shn_M_keepsTies0 slb_M_keepsTies2 [] san_M_keepsTies2 a1_M_keepsTies2_0 = true := by decide +kernel
theorem ks_M_keepsTies2_1 : chk1A GX (dN DH) 3000 sct_M_keepsTies2 sw_M_keepsTies2 shn_M_keepsTies0 slb_M_keepsTies2 [] san_M_keepsTies2 a1_M_keepsTies2_1 = true := by decide +kernel
theorem ks_M_keepsTies2_2 : chk1A GX (dN DH) 3000 sct_M_keepsTies2 sw_M_keepsTies2 shn_M_keepsTies0 slb_M_keepsTies2 [] san_M_keepsTies2 a1_M_keepsTies2_2 = true := by decide +kernel
theorem ks_M_reaches5_r : chk1E GX (dN DH) 3000 318 sct_M_reaches5 sw_M_reaches5 shn_M_reaches1 slb_M_reaches5 [] san_M_reaches5 100000 = true := by decide +kernel
theorem ks_M_reaches5_0 : chk1A GX (dN DH) 3000 sct_M_reaches5 sw_M_reaches5 shn_M_reaches1 slb_M_reaches5 [] san_M_reaches5 a1_M_reaches5_0 = true := by decide +kernel
theorem ks_M_reaches5_1 : chk1A GX (dN DH) 3000 sct_M_reaches5 sw_M_reaches5 shn_M_reaches1 slb_M_reaches5 [] san_M_reaches5 a1_M_reaches5_1 = true := by decide +kernel
theorem ks_M_reaches5_2 : chk1A GX (dN DH) 3000 sct_M_reaches5 sw_M_reaches5 shn_M_reaches1 slb_M_reaches5 [] san_M_reaches5 a1_M_reaches5_2 = true := by decide +kernel
theorem ks_M_reaches5_3 : chk1A GX (dN DH) 3000 sct_M_reaches5 sw_M_reaches5 shn_M_reaches1 slb_M_reaches5 [] san_M_reaches5 a1_M_reaches5_3 = true := by decide +kernel
theorem ks_M_reaches5_4 : chk1A GX (dN DH) 3000 sct_M_reaches5 sw_M_reaches5 shn_M_reaches1 slb_M_reaches5 [] san_M_reaches5 a1_M_reaches5_4 = true := by decide +kernel
theorem ks_M_reaches5_5 : chk1A GX (dN DH) 3000 sct_M_reaches5 sw_M_reaches5 shn_M_reaches1 slb_M_reaches5 [] san_M_reaches5 a1_M_reaches5_5 = true := by decide +kernel
theorem ks_M_keepsTies3_r : chk1E GX (dN DH) 3000 418 sct_M_keepsTies3 sw_M_keepsTies3 shn_M_keepsTies0 slb_M_keepsTies3 [] san_M_keepsTies3 100000 = true := by decide +kernel
theorem ks_M_keepsTies3_0 : chk1A GX (dN DH) 3000 sct_M_keepsTies3 sw_M_keepsTies3 shn_M_keepsTies0 slb_M_keepsTies3 [] san_M_keepsTies3 a1_M_keepsTies3_0 = true := by decide +kernel
