theorem ks_Wo_doTiesHold9_0 : chk1A GX DH 3000 sct_Wo_doTiesHold9 sw_Wo_doTiesHold9 shn_Wo_doTiesHold0 slb_Wo_doTiesHold9 [] san_Wo_doTiesHold9 a1_Wo_doTiesHold9_0 = true := by decide +kernel
theorem ks_Wo_doTiesHold9_1 : chk1A GX DH 3000 sct_Wo_doTiesHold9 sw_Wo_doTiesHold9 shn_Wo_doTiesHold0 slb_Wo_doTiesHold9 [] san_Wo_doTiesHold9 a1_Wo_doTiesHold9_1 = true := by decide +kernel
theorem ks_Wo_doTiesHold9_2 : chk1A GX DH 3000 sct_Wo_doTiesHold9 sw_Wo_doTiesHold9 shn_Wo_doTiesHold0 slb_Wo_doTiesHold9 [] san_Wo_doTiesHold9 a1_Wo_doTiesHold9_2 = true := by decide +kernel
theorem ks_Wo_doTiesHold10_r : chk1E GX DH 3000 184 sct_Wo_doTiesHold10 sw_Wo_doTiesHold10 shn_Wo_doTiesHold0 slb_Wo_doTiesHold10 [] san_Wo_doTiesHold10 100000 = true := by decide +kernel
theorem ks_Wo_doTiesHold10_0 : chk1A GX DH 3000 sct_Wo_doTiesHold10 sw_Wo_doTiesHold10 shn_Wo_doTiesHold0 slb_Wo_doTiesHold10 [] san_Wo_doTiesHold10 a1_Wo_doTiesHold10_0 = true := by decide +kernel
theorem ks_Wo_doTiesHold10_1 : chk1A GX DH 3000 sct_Wo_doTiesHold10 sw_Wo_doTiesHold10 shn_Wo_doTiesHold0 slb_Wo_doTiesHold10 [] san_Wo_doTiesHold10 a1_Wo_doTiesHold10_1 = true := by decide +kernel
theorem ks_Wo_doTiesHold10_2 : chk1A GX DH 3000 sct_Wo_doTiesHold10 sw_Wo_doTiesHold10 shn_Wo_doTiesHold0 slb_Wo_doTiesHold10 [] san_Wo_doTiesHold10 a1_Wo_doTiesHold10_2 = true := by decide +kernel
theorem ks_Wo_searchFrom5_r : chk1E GX DH 3000 185 sct_Wo_searchFrom5 sw_Wo_searchFrom5 shn_Wo_searchFrom5 slb_Wo_searchFrom5 sn_Wo_searchFrom5 san_Wo_searchFrom5 100000 = true := by decide +kernel
theorem ks_Wo_searchFrom5_0 : chk1A GX DH 3000 sct_Wo_searchFrom5 sw_Wo_searchFrom5 shn_Wo_searchFrom5 slb_Wo_searchFrom5 sn_Wo_searchFrom5 san_Wo_searchFrom5 a1_Wo_searchFrom5_0 = true := by decide +kernel
theorem ks_Wo_doTiesHold11_r : chk1E GX DH 3000 184 sct_Wo_doTiesHold11 sw_Wo_doTiesHold11 shn_Wo_doTiesHold0 slb_Wo_doTiesHold11 [] san_Wo_doTiesHold11 100000 = true := by decide +kernel
theorem ks_Wo_doTiesHold11_0 : chk1A GX DH 3000 sct_Wo_doTiesHold11 sw_Wo_doTiesHold11 shn_Wo_doTiesHold0 slb_Wo_doTiesHold11 [] san_Wo_doTiesHold11 a1_Wo_doTiesHold11_0 = true := by decide +kernel
theorem ks_Wo_doTiesHold11_1 : chk1A GX DH 3000 sct_Wo_doTiesHold11 sw_Wo_doTiesHold11 shn_Wo_doTiesHold0 slb_Wo_doTiesHold11 [] san_Wo_doTiesHold11 a1_Wo_doTiesHold11_1 = true := by decide +kernel
theorem ks_Wo_doTiesHold11_2 : chk1A GX DH 3000 sct_Wo_doTiesHold11 sw_Wo_doTiesHold11 shn_Wo_doTiesHold0 slb_Wo_doTiesHold11 [] san_Wo_doTiesHold11 a1_Wo_doTiesHold11_2 = true := by decide +kernel
theorem ks_Wo_doTiesHold12_r : chk1E GX DH 3000 184 sct_Wo_doTiesHold12 sw_Wo_doTiesHold12 shn_Wo_doTiesHold0 slb_Wo_doTiesHold12 [] san_Wo_doTiesHold12 100000 = true := by decide +kernel
theorem ks_Wo_doTiesHold12_0 : chk1A GX DH 3000 sct_Wo_doTiesHold12 sw_Wo_doTiesHold12 shn_Wo_doTiesHold0 slb_Wo_doTiesHold12 [] san_Wo_doTiesHold12 a1_Wo_doTiesHold12_0 = true := by decide +kernel
theorem ks_Wo_doTiesHold12_1 : chk1A GX DH 3000 sct_Wo_doTiesHold12 sw_Wo_doTiesHold12 shn_Wo_doTiesHold0 slb_Wo_doTiesHold12 [] san_Wo_doTiesHold12 a1_Wo_doTiesHold12_1 = true := by decide +kernel
theorem ks_Wo_doTiesHold12_2 : chk1A GX DH 3000 sct_Wo_doTiesHold12 sw_Wo_doTiesHold12 shn_Wo_doTiesHold0 slb_Wo_doTiesHold12 [] san_Wo_doTiesHold12 a1_Wo_doTiesHold12_2 = true := by decide +kernel
theorem ks_Wo_searchFrom6_r : chk1E GX DH 3000 185 sct_Wo_searchFrom6 sw_Wo_searchFrom6 shn_Wo_searchFrom6 slb_Wo_searchFrom6 sn_Wo_searchFrom6 san_Wo_searchFrom6 100000 = true := by decide +kernel
theorem ks_Wo_searchFrom6_0 : chk1A GX DH 3000 sct_Wo_searchFrom6 sw_Wo_searchFrom6 shn_Wo_searchFrom6 slb_Wo_searchFrom6 sn_Wo_searchFrom6 san_Wo_searchFrom6 a1_Wo_searchFrom6_0 = true := by decide +kernel
theorem ks_Wo_doTiesHold13_r : chk1E GX DH 3000 184 sct_Wo_doTiesHold13 sw_Wo_doTiesHold13 shn_Wo_doTiesHold0 slb_Wo_doTiesHold13 [] san_Wo_doTiesHold13 100000 = true := by decide +kernel
theorem ks_Wo_doTiesHold13_0 : chk1A GX DH 3000 sct_Wo_doTiesHold13 sw_Wo_doTiesHold13 shn_Wo_doTiesHold0 slb_Wo_doTiesHold13 [] san_Wo_doTiesHold13 a1_Wo_doTiesHold13_0 = true := by decide +kernel
theorem ks_Wo_doTiesHold13_1 : chk1A GX DH 3000 sct_Wo_doTiesHold13 sw_Wo_doTiesHold13 shn_Wo_doTiesHold0 slb_Wo_doTiesHold13 [] san_Wo_doTiesHold13 a1_Wo_doTiesHold13_1 = true := by decide +kernel
theorem ks_Wo_doTiesHold13_2 : chk1A GX DH 3000 sct_Wo_doTiesHold13 sw_Wo_doTiesHold13 shn_Wo_doTiesHold0 slb_Wo_doTiesHold13 [] san_Wo_doTiesHold13 a1_Wo_doTiesHold13_2 = true := by decide +kernel
theorem ks_Wo_doTiesHold14_r : chk1E GX DH 3000 184 sct_Wo_doTiesHold14 sw_Wo_doTiesHold14 shn_Wo_doTiesHold0 slb_Wo_doTiesHold14 [] san_Wo_doTiesHold14 100000 = true := by decide +kernel
theorem ks_Wo_doTiesHold14_0 : chk1A GX DH 3000 sct_Wo_doTiesHold14 sw_Wo_doTiesHold14 shn_Wo_doTiesHold0 slb_Wo_doTiesHold14 [] san_Wo_doTiesHold14 a1_Wo_doTiesHold14_0 = true := by decide +kernel
theorem ks_Wo_doTiesHold14_1 : chk1A GX DH 3000 sct_Wo_doTiesHold14 sw_Wo_doTiesHold14 shn_Wo_doTiesHold0 slb_Wo_doTiesHold14 [] san_Wo_doTiesHold14 a1_Wo_doTiesHold14_1 = true := by decide +kernel
theorem ks_Wo_doTiesHold14_2 : chk1A GX DH 3000 sct_Wo_doTiesHold14 sw_Wo_doTiesHold14 shn_Wo_doTiesHold0 slb_Wo_doTiesHold14 [] san_Wo_doTiesHold14 a1_Wo_doTiesHold14_2 = true := by decide +kernel
theorem ks_Wo_searchFrom7_r : chk1E GX DH 3000 185 sct_Wo_searchFrom7 sw_Wo_searchFrom7 shn_Wo_searchFrom7 slb_Wo_searchFrom7 sn_Wo_searchFrom7 san_Wo_searchFrom7 100000 = true := by decide +kernel
theorem ks_Wo_searchFrom7_0 : chk1A GX DH 3000 sct_Wo_searchFrom7 sw_Wo_searchFrom7 shn_Wo_searchFrom7 slb_Wo_searchFrom7 sn_Wo_searchFrom7 san_Wo_searchFrom7 a1_Wo_searchFrom7_0 = true := by decide +kernel
theorem ks_Wo_doTiesHold15_r : chk1E GX DH 3000 184 sct_Wo_doTiesHold15 sw_Wo_doTiesHold15 shn_Wo_doTiesHold0 slb_Wo_doTiesHold15 [] san_Wo_doTiesHold15 100000 = true := by decide +kernel
theorem ks_Wo_doTiesHold15_0 : chk1A GX DH 3000 sct_Wo_doTiesHold15 sw_Wo_doTiesHold15 shn_Wo_doTiesHold0 slb_Wo_doTiesHold15 [] san_Wo_doTiesHold15 a1_Wo_doTiesHold15_0 = true := by decide +kernel
theorem ks_Wo_doTiesHold15_1 : chk1A GX DH 3000 sct_Wo_doTiesHold15 sw_Wo_doTiesHold15 shn_Wo_doTiesHold0 slb_Wo_doTiesHold15 [] san_Wo_doTiesHold15 a1_Wo_doTiesHold15_1 = true := by decide +kernel
theorem ks_Wo_doTiesHold15_2 : chk1A GX DH 3000 sct_Wo_doTiesHold15 sw_Wo_doTiesHold15 shn_Wo_doTiesHold0 slb_Wo_doTiesHold15 [] san_Wo_doTiesHold15 a1_Wo_doTiesHold15_2 = true := by decide +kernel
theorem ks_Wo_doTiesHold16_r : chk1E GX DH 3000 184 sct_Wo_doTiesHold16 sw_Wo_doTiesHold16 shn_Wo_doTiesHold0 slb_Wo_doTiesHold16 [] san_Wo_doTiesHold16 100000 = true := by decide +kernel
theorem ks_Wo_doTiesHold16_0 : chk1A GX DH 3000 sct_Wo_doTiesHold16 sw_Wo_doTiesHold16 shn_Wo_doTiesHold0 slb_Wo_doTiesHold16 [] san_Wo_doTiesHold16 a1_Wo_doTiesHold16_0 = true := by decide +kernel
theorem ks_Wo_doTiesHold16_1 : chk1A GX DH 3000 sct_Wo_doTiesHold16 sw_Wo_doTiesHold16 shn_Wo_doTiesHold0 slb_Wo_doTiesHold16 [] san_Wo_doTiesHold16 a1_Wo_doTiesHold16_1 = true := by decide +kernel
theorem ks_Wo_doTiesHold16_2 : chk1A GX DH 3000 sct_Wo_doTiesHold16 sw_Wo_doTiesHold16 shn_Wo_doTiesHold0 slb_Wo_doTiesHold16 [] san_Wo_doTiesHold16 a1_Wo_doTiesHold16_2 = true := by decide +kernel
theorem ks_Wo_searchFrom8_r : chk1E GX DH 3000 185 sct_Wo_searchFrom8 sw_Wo_searchFrom8 shn_Wo_searchFrom8 slb_Wo_searchFrom8 sn_Wo_searchFrom8 san_Wo_searchFrom8 100000 = true := by decide +kernel
theorem ks_Wo_searchFrom8_0 : chk1A GX DH 3000 sct_Wo_searchFrom8 sw_Wo_searchFrom8 shn_Wo_searchFrom8 slb_Wo_searchFrom8 sn_Wo_searchFrom8 san_Wo_searchFrom8 a1_Wo_searchFrom8_0 = true := by decide +kernel
theorem ks_M_setDone0_r : chk1E GX (dN DH) 3000 420 sct_M_setDone0 sw_M_setDone0 shn_M_setDone0 slb_M_setDone0 [] san_M_setDone0 100000 = true := by decide +kernel
theorem ks_M_setDone0_0 : chk1A GX (dN DH) 3000 sct_M_setDone0 sw_M_setDone0 shn_M_setDone0 slb_M_setDone0 [] san_M_setDone0 a1_M_setDone0_0 = true := by decide +kernel
theorem ks_M_setDone0_1 : chk1A GX (dN DH) 3000 sct_M_setDone0 sw_M_setDone0 shn_M_setDone0 slb_M_setDone0 [] san_M_setDone0 a1_M_setDone0_1 = true := by decide +kernel
theorem ks_M_keepsTies0_r : chk1E GX (dN DH) 3000 418 sct_M_keepsTies0 sw_M_keepsTies0 shn_M_keepsTies0 slb_M_keepsTies0 [] san_M_keepsTies0 100000 = true := by decide +kernel
theorem ks_M_keepsTies0_0 : chk1A GX (dN DH) 3000 sct_M_keepsTies0 sw_M_keepsTies0 shn_M_keepsTies0 slb_M_keepsTies0 [] san_M_keepsTies0 a1_M_keepsTies0_0 = true := by decide +kernel
theorem ks_M_keepsTies0_1 : chk1A GX (dN DH) 3000 sct_M_keepsTies0 sw_M_keepsTies0 shn_M_keepsTies0 slb_M_keepsTies0 [] san_M_keepsTies0 a1_M_keepsTies0_1 = true := by decide +kernel
theorem ks_M_keepsTies0_2 : chk1A GX (dN DH) 3000 sct_M_keepsTies0 sw_M_keepsTies0 shn_M_keepsTies0 slb_M_keepsTies0 [] san_M_keepsTies0 a1_M_keepsTies0_2 = true := by decide +kernel
theorem ks_M_reaches3_r : chk1E GX (dN DH) 3000 318 sct_M_reaches3 sw_M_reaches3 shn_M_reaches1 slb_M_reaches3 [] san_M_reaches3 100000 = true := by decide +kernel
theorem ks_M_reaches3_0 : chk1A GX (dN DH) 3000 sct_M_reaches3 sw_M_reaches3 shn_M_reaches1 slb_M_reaches3 [] san_M_reaches3 a1_M_reaches3_0 = true := by decide +kernel
