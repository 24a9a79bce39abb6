theorem ks_M_reaches3_1 : chk1A GX (dN DH) 3000 sct_M_reaches3 sw_M_reaches3 shn_M_reaches1 slb_M_reaches3 [] san_M_reaches3 a1_M_reaches3_1 = true := by decide +kernel
theorem ks_M_reaches3_2 : chk1A GX (dN DH) 3000 sct_M_reaches3 sw_M_reaches3 shn_M_reaches1 slb_M_reaches3 [] san_M_reaches3 a1_M_reaches3_2 = true := by decide +kernel
theorem ks_M_reaches3_3 : chk1A GX (dN DH) 3000 sct_M_reaches3 sw_M_reaches3 shn_M_reaches1 slb_M_reaches3 [] san_M_reaches3 a1_M_reaches3_3 = true := by decide +kernel
theorem ks_M_reaches3_4 : chk1A GX (dN DH) 3000 sct_M_reaches3 sw_M_reaches3 shn_M_reaches1 slb_M_reaches3 [] san_M_reaches3 a1_M_reaches3_4 = true := by decide +kernel
theorem ks_M_reaches3_5 : chk1A GX (dN DH) 3000 sct_M_reaches3 sw_M_reaches3 shn_M_reaches1 slb_M_reaches3 [] san_M_reaches3 a1_M_reaches3_5 = true := by decide +kernel
theorem ks_M_keepsTies1_r : chk1E GX (dN DH) 3000 418 sct_M_keepsTies1 sw_M_keepsTies1 shn_M_keepsTies0 slb_M_keepsTies1 [] san_M_keepsTies1 100000 = true := by decide +kernel
theorem ks_M_keepsTies1_0 : chk1A GX (dN DH) 3000 sct_M_keepsTies1 sw_M_keepsTies1 shn_M_keepsTies0 slb_M_keepsTies1 [] san_M_keepsTies1 a1_M_keepsTies1_0 = true := by decide +kernel
theorem ks_M_keepsTies1_1 : chk1A GX (dN DH) 3000 sct_M_keepsTies1 sw_M_keepsTies1 shn_M_keepsTies0 slb_M_keepsTies1 [] san_M_keepsTies1 a1_M_keepsTies1_1 = true := by decide +kernel
theorem ks_M_keepsTies1_2 : chk1A GX (dN DH) 3000 sct_M_keepsTies1 sw_M_keepsTies1 shn_M_keepsTies0 slb_M_keepsTies1 [] san_M_keepsTies1 a1_M_keepsTies1_2 = true := by decide +kernel
theorem ks_M_searches0_r : chk1E GX (dN DH) 3000 419 sct_M_searches0 sw_M_searches0 shn_M_searches0 slb_M_searches0 sn_M_searches0 san_M_searches0 1000000000 = true := by decide +kernel
theorem ks_M_searches0_0 : chk1A GX (dN DH) 3000 sct_M_searches0 sw_M_searches0 shn_M_searches0 slb_M_searches0 sn_M_searches0 san_M_searches0 a1_M_searches0_0 = true := by decide +kernel
theorem ks_M_searches0_1 : chk1A GX (dN DH) 3000 sct_M_searches0 sw_M_searches0 shn_M_searches0 slb_M_searches0 sn_M_searches0 san_M_searches0 a1_M_searches0_1 = true := by decide +kernel
theorem ks_M_searches0_2 : chk1A GX (dN DH) 3000 sct_M_searches0 sw_M_searches0 shn_M_searches0 slb_M_searches0 sn_M_searches0 san_M_searches0 a1_M_searches0_2 = true := by decide +kernel
theorem ks_M_searches0_3 : chk1A GX (dN DH) 3000 sct_M_searches0 sw_M_searches0 shn_M_searches0 slb_M_searches0 sn_M_searches0 san_M_searches0 a1_M_searches0_3 = true := by decide +kernel
theorem ks_M_searches0_4 : chk1A GX (dN DH) 3000 sct_M_searches0 sw_M_searches0 shn_M_searches0 slb_M_searches0 sn_M_searches0 san_M_searches0 a1_M_searches0_4 = true := by decide +kernel
theorem ks_M_searches0_5 : chk1A GX (dN DH) 3000 sct_M_searches0 sw_M_searches0 shn_M_searches0 slb_M_searches0 sn_M_searches0 san_M_searches0 a1_M_searches0_5 = true := by decide +kernel
theorem ks_M_searches0_6 : chk1A GX (dN DH) 3000 sct_M_searches0 sw_M_searches0 shn_M_searches0 slb_M_searches0 sn_M_searches0 san_M_searches0 a1_M_searches0_6 = true := by decide +kernel
theorem k2_fill_r : chk2 GX pc_fill DH 3000 r2_fill = true := by decide +kernel
theorem k2_fill_0 : chk2 GX pc_fill DH 3000 a2_fill_0 = true := by decide +kernel
theorem k2_fill_1 : chk2 GX pc_fill DH 3000 a2_fill_1 = true := by decide +kernel
theorem k2_fill_2 : chk2 GX pc_fill DH 3000 a2_fill_2 = true := by decide +kernel
theorem k2_fill_3 : chk2 GX pc_fill DH 3000 a2_fill_3 = true := by decide +kernel
theorem k2_fill_4 : chk2 GX pc_fill DH 3000 a2_fill_4 = true := by decide +kernel
theorem ks_Wo_doTiesHold17_r : chk1E GX DH 3000 184 sct_Wo_doTiesHold17 sw_Wo_doTiesHold17 shn_Wo_doTiesHold0 slb_Wo_doTiesHold17 [] san_Wo_doTiesHold17 100000 = true := by decide +kernel
theorem ks_Wo_doTiesHold17_0 : chk1A GX DH 3000 sct_Wo_doTiesHold17 sw_Wo_doTiesHold17 shn_Wo_doTiesHold0 slb_Wo_doTiesHold17 [] san_Wo_doTiesHold17 a1_Wo_doTiesHold17_0 = true := by decide +kernel
theorem ks_Wo_doTiesHold17_1 : chk1A GX DH 3000 sct_Wo_doTiesHold17 sw_Wo_doTiesHold17 shn_Wo_doTiesHold0 slb_Wo_doTiesHold17 [] san_Wo_doTiesHold17 a1_Wo_doTiesHold17_1 = true := by decide +kernel
theorem ks_Wo_doTiesHold17_2 : chk1A GX DH 3000 sct_Wo_doTiesHold17 sw_Wo_doTiesHold17 shn_Wo_doTiesHold0 slb_Wo_doTiesHold17 [] san_Wo_doTiesHold17 a1_Wo_doTiesHold17_2 = true := by decide +kernel
theorem ks_Wo_doTiesHold18_r : chk1E GX DH 3000 184 sct_Wo_doTiesHold18 sw_Wo_doTiesHold18 shn_Wo_doTiesHold0 slb_Wo_doTiesHold18 [] san_Wo_doTiesHold18 100000 = true := by decide +kernel
theorem ks_Wo_doTiesHold18_0 : chk1A GX DH 3000 sct_Wo_doTiesHold18 sw_Wo_doTiesHold18 shn_Wo_doTiesHold0 slb_Wo_doTiesHold18 [] san_Wo_doTiesHold18 a1_Wo_doTiesHold18_0 = true := by decide +kernel
theorem ks_Wo_doTiesHold18_1 : chk1A GX DH 3000 sct_Wo_doTiesHold18 sw_Wo_doTiesHold18 shn_Wo_doTiesHold0 slb_Wo_doTiesHold18 [] san_Wo_doTiesHold18 a1_Wo_doTiesHold18_1 = true := by decide +kernel
theorem ks_Wo_doTiesHold18_2 : chk1A GX DH 3000 sct_Wo_doTiesHold18 sw_Wo_doTiesHold18 shn_Wo_doTiesHold0 slb_Wo_doTiesHold18 [] san_Wo_doTiesHold18 a1_Wo_doTiesHold18_2 = true := by decide +kernel
theorem ks_Wo_searchFrom9_r : chk1E GX DH 3000 185 sct_Wo_searchFrom9 sw_Wo_searchFrom9 shn_Wo_searchFrom0 slb_Wo_searchFrom9 sn_Wo_searchFrom9 san_Wo_searchFrom9 100000 = true := by decide +kernel
theorem ks_Wo_doTiesHold19_r : chk1E GX DH 3000 184 sct_Wo_doTiesHold19 sw_Wo_doTiesHold19 shn_Wo_doTiesHold0 slb_Wo_doTiesHold19 [] san_Wo_doTiesHold19 100000 = true := by decide +kernel
theorem ks_Wo_doTiesHold19_0 : chk1A GX DH 3000 sct_Wo_doTiesHold19 sw_Wo_doTiesHold19 shn_Wo_doTiesHold0 slb_Wo_doTiesHold19 [] san_Wo_doTiesHold19 a1_Wo_doTiesHold19_0 = true := by decide +kernel
theorem ks_Wo_doTiesHold19_1 : chk1A GX DH 3000 sct_Wo_doTiesHold19 sw_Wo_doTiesHold19 shn_Wo_doTiesHold0 slb_Wo_doTiesHold19 [] san_Wo_doTiesHold19 a1_Wo_doTiesHold19_1 = true := by decide +kernel
theorem ks_Wo_doTiesHold19_2 : chk1A GX DH 3000 sct_Wo_doTiesHold19 sw_Wo_doTiesHold19 shn_Wo_doTiesHold0 slb_Wo_doTiesHold19 [] san_Wo_doTiesHold19 a1_Wo_doTiesHold19_2 = true := by decide +kernel
theorem ks_Wo_doTiesHold20_r : chk1E GX DH 3000 184 sct_Wo_doTiesHold20 sw_Wo_doTiesHold20 shn_Wo_doTiesHold0 slb_Wo_doTiesHold20 [] san_Wo_doTiesHold20 100000 = true := by decide +kernel
theorem ks_Wo_doTiesHold20_0 : chk1A GX DH 3000 sct_Wo_doTiesHold20 sw_Wo_doTiesHold20 shn_Wo_doTiesHold0 slb_Wo_doTiesHold20 [] san_Wo_doTiesHold20 a1_Wo_doTiesHold20_0 = true := by decide +kernel
theorem ks_Wo_doTiesHold20_1 : chk1A GX DH 3000 sct_Wo_doTiesHold20 sw_Wo_doTiesHold20 shn_Wo_doTiesHold0 slb_Wo_doTiesHold20 [] san_Wo_doTiesHold20 a1_Wo_doTiesHold20_1 = true := by decide +kernel
theorem ks_Wo_doTiesHold20_2 : chk1A GX DH 3000 sct_Wo_doTiesHold20 sw_Wo_doTiesHold20 shn_Wo_doTiesHold0 slb_Wo_doTiesHold20 [] san_Wo_doTiesHold20 a1_Wo_doTiesHold20_2 = true := by decide +kernel
theorem ks_Wo_searchFrom10_r : chk1E GX DH 3000 185 sct_Wo_searchFrom10 sw_Wo_searchFrom10 shn_Wo_searchFrom1 slb_Wo_searchFrom10 sn_Wo_searchFrom10 san_Wo_searchFrom10 100000 = true := by decide +kernel
theorem ks_Wo_searchFrom10_0 : chk1A GX DH 3000 sct_Wo_searchFrom10 sw_Wo_searchFrom10 shn_Wo_searchFrom1 slb_Wo_searchFrom10 sn_Wo_searchFrom10 san_Wo_searchFrom10 a1_Wo_searchFrom10_0 = true := by decide +kernel
theorem ks_Wo_doTiesHold21_r : chk1E GX DH 3000 184 sct_Wo_doTiesHold21 sw_Wo_doTiesHold21 shn_Wo_doTiesHold0 slb_Wo_doTiesHold21 [] san_Wo_doTiesHold21 100000 = true := by decide +kernel
