theorem ks_Wo_prepare0_0 : chk1A GX DH 3000 sct_Wo_prepare0 sw_Wo_prepare0 shn_Wo_prepare0 slb_Wo_prepare0 sn_Wo_prepare0 san_Wo_prepare0 a1_Wo_prepare0_0 = true := by decide +kernel
theorem ks_Wo_prepare0_1 : chk1A GX DH 3000 sct_Wo_prepare0 sw_Wo_prepare0 shn_Wo_prepare0 slb_Wo_prepare0 sn_Wo_prepare0 san_Wo_prepare0 a1_Wo_prepare0_1 = true := by decide +kernel
theorem ks_Wo_prepare0_2 : chk1A GX DH 3000 sct_Wo_prepare0 sw_Wo_prepare0 shn_Wo_prepare0 slb_Wo_prepare0 sn_Wo_prepare0 san_Wo_prepare0 a1_Wo_prepare0_2 = true := by decide +kernel
theorem ks_Wo_prepare0_3 : chk1A GX DH 3000 sct_Wo_prepare0 sw_Wo_prepare0 shn_Wo_prepare0 slb_Wo_prepare0 sn_Wo_prepare0 san_Wo_prepare0 a1_Wo_prepare0_3 = true := by decide +kernel
theorem ks_Wo_prepare0_4 : chk1A GX DH 3000 sct_Wo_prepare0 sw_Wo_prepare0 shn_Wo_prepare0 slb_Wo_prepare0 sn_Wo_prepare0 san_Wo_prepare0 a1_Wo_prepare0_4 = true := by decide +kernel
theorem ks_Wo_doTiesHold0_r : chk1E GX DH 3000 184 sct_Wo_doTiesHold0 sw_Wo_doTiesHold0 shn_Wo_doTiesHold0 slb_Wo_doTiesHold0 [] san_Wo_doTiesHold0 100000 = true := by decide +kernel
theorem ks_Wo_doTiesHold0_0 : chk1A GX DH 3000 sct_Wo_doTiesHold0 sw_Wo_doTiesHold0 shn_Wo_doTiesHold0 slb_Wo_doTiesHold0 [] san_Wo_doTiesHold0 a1_Wo_doTiesHold0_0 = true := by decide +kernel
theorem ks_Wo_doTiesHold0_1 : chk1A GX DH 3000 sct_Wo_doTiesHold0 sw_Wo_doTiesHold0 shn_Wo_doTiesHold0 slb_Wo_doTiesHold0 [] san_Wo_doTiesHold0 a1_Wo_doTiesHold0_1 = true := by decide +kernel
theorem ks_Wo_doTiesHold0_2 : chk1A GX DH 3000 sct_Wo_doTiesHold0 sw_Wo_doTiesHold0 shn_Wo_doTiesHold0 slb_Wo_doTiesHold0 [] san_Wo_doTiesHold0 a1_Wo_doTiesHold0_2 = true := by decide +kernel
theorem ks_Wo_searchFrom0_r : chk1E GX DH 3000 185 sct_Wo_searchFrom0 sw_Wo_searchFrom0 shn_Wo_searchFrom0 slb_Wo_searchFrom0 sn_Wo_searchFrom0 san_Wo_searchFrom0 100000 = true := by decide +kernel
theorem ks_Wo_doTiesHold1_r : chk1E GX DH 3000 184 sct_Wo_doTiesHold1 sw_Wo_doTiesHold1 shn_Wo_doTiesHold0 slb_Wo_doTiesHold1 [] san_Wo_doTiesHold1 100000 = true := by decide +kernel
theorem ks_Wo_doTiesHold1_0 : chk1A GX DH 3000 sct_Wo_doTiesHold1 sw_Wo_doTiesHold1 shn_Wo_doTiesHold0 slb_Wo_doTiesHold1 [] san_Wo_doTiesHold1 a1_Wo_doTiesHold1_0 = true := by decide +kernel
theorem ks_Wo_doTiesHold1_1 : chk1A GX DH 3000 sct_Wo_doTiesHold1 sw_Wo_doTiesHold1 shn_Wo_doTiesHold0 slb_Wo_doTiesHold1 [] san_Wo_doTiesHold1 a1_Wo_doTiesHold1_1 = true := by decide +kernel
theorem ks_Wo_doTiesHold1_2 : chk1A GX DH 3000 sct_Wo_doTiesHold1 sw_Wo_doTiesHold1 shn_Wo_doTiesHold0 slb_Wo_doTiesHold1 [] san_Wo_doTiesHold1 a1_Wo_doTiesHold1_2 = true := by decide +kernel
theorem ks_Wo_doTiesHold2_r : chk1E GX DH 3000 184 sct_Wo_doTiesHold2 sw_Wo_doTiesHold2 shn_Wo_doTiesHold0 slb_Wo_doTiesHold2 [] san_Wo_doTiesHold2 100000 = true := by decide +kernel
theorem ks_Wo_doTiesHold2_0 : chk1A GX DH 3000 sct_Wo_doTiesHold2 sw_Wo_doTiesHold2 shn_Wo_doTiesHold0 slb_Wo_doTiesHold2 [] san_Wo_doTiesHold2 a1_Wo_doTiesHold2_0 = true := by decide +kernel
theorem ks_Wo_doTiesHold2_1 : chk1A GX DH 3000 sct_Wo_doTiesHold2 sw_Wo_doTiesHold2 shn_Wo_doTiesHold0 slb_Wo_doTiesHold2 [] san_Wo_doTiesHold2 a1_Wo_doTiesHold2_1 = true := by decide +kernel
theorem ks_Wo_doTiesHold2_2 : chk1A GX DH 3000 sct_Wo_doTiesHold2 sw_Wo_doTiesHold2 shn_Wo_doTiesHold0 slb_Wo_doTiesHold2 [] san_Wo_doTiesHold2 a1_Wo_doTiesHold2_2 = true := by decide +kernel
theorem ks_Wo_searchFrom1_r : chk1E GX DH 3000 185 sct_Wo_searchFrom1 sw_Wo_searchFrom1 shn_Wo_searchFrom1 slb_Wo_searchFrom1 sn_Wo_searchFrom1 san_Wo_searchFrom1 100000 = true := by decide +kernel
theorem ks_Wo_searchFrom1_0 : chk1A GX DH 3000 sct_Wo_searchFrom1 sw_Wo_searchFrom1 shn_Wo_searchFrom1 slb_Wo_searchFrom1 sn_Wo_searchFrom1 san_Wo_searchFrom1 a1_Wo_searchFrom1_0 = true := by decide +kernel
theorem ks_Wo_doTiesHold3_r : chk1E GX DH 3000 184 sct_Wo_doTiesHold3 sw_Wo_doTiesHold3 shn_Wo_doTiesHold0 slb_Wo_doTiesHold3 [] san_Wo_doTiesHold3 100000 = true := by decide +kernel
theorem ks_Wo_doTiesHold3_0 : chk1A GX DH 3000 sct_Wo_doTiesHold3 sw_Wo_doTiesHold3 shn_Wo_doTiesHold0 slb_Wo_doTiesHold3 [] san_Wo_doTiesHold3 a1_Wo_doTiesHold3_0 = true := by decide +kernel
theorem ks_Wo_doTiesHold3_1 : chk1A GX DH 3000 sct_Wo_doTiesHold3 sw_Wo_doTiesHold3 shn_Wo_doTiesHold0 slb_Wo_doTiesHold3 [] san_Wo_doTiesHold3 a1_Wo_doTiesHold3_1 = true := by decide +kernel
theorem ks_Wo_doTiesHold3_2 : chk1A GX DH 3000 sct_Wo_doTiesHold3 sw_Wo_doTiesHold3 shn_Wo_doTiesHold0 slb_Wo_doTiesHold3 [] san_Wo_doTiesHold3 a1_Wo_doTiesHold3_2 = true := by decide +kernel
theorem ks_Wo_doTiesHold4_r : chk1E GX DH 3000 184 sct_Wo_doTiesHold4 sw_Wo_doTiesHold4 shn_Wo_doTiesHold0 slb_Wo_doTiesHold4 [] san_Wo_doTiesHold4 100000 = true := by decide +kernel
theorem ks_Wo_doTiesHold4_0 : chk1A GX DH 3000 sct_Wo_doTiesHold4 sw_Wo_doTiesHold4 shn_Wo_doTiesHold0 slb_Wo_doTiesHold4 [] san_Wo_doTiesHold4 a1_Wo_doTiesHold4_0 = true := by decide +kernel
theorem ks_Wo_doTiesHold4_1 : chk1A GX DH 3000 sct_Wo_doTiesHold4 sw_Wo_doTiesHold4 shn_Wo_doTiesHold0 slb_Wo_doTiesHold4 [] san_Wo_doTiesHold4 a1_Wo_doTiesHold4_1 = true := by decide +kernel
theorem ks_Wo_doTiesHold4_2 : chk1A GX DH 3000 sct_Wo_doTiesHold4 sw_Wo_doTiesHold4 shn_Wo_doTiesHold0 slb_Wo_doTiesHold4 [] san_Wo_doTiesHold4 a1_Wo_doTiesHold4_2 = true := by decide +kernel
theorem ks_Wo_searchFrom2_r : chk1E GX DH 3000 185 sct_Wo_searchFrom2 sw_Wo_searchFrom2 shn_Wo_searchFrom2 slb_Wo_searchFrom2 sn_Wo_searchFrom2 san_Wo_searchFrom2 100000 = true := by decide +kernel
theorem ks_Wo_searchFrom2_0 : chk1A GX DH 3000 sct_Wo_searchFrom2 sw_Wo_searchFrom2 shn_Wo_searchFrom2 slb_Wo_searchFrom2 sn_Wo_searchFrom2 san_Wo_searchFrom2 a1_Wo_searchFrom2_0 = true := by decide +kernel
theorem ks_Wo_doTiesHold5_r : chk1E GX DH 3000 184 sct_Wo_doTiesHold5 sw_Wo_doTiesHold5 shn_Wo_doTiesHold0 slb_Wo_doTiesHold5 [] san_Wo_doTiesHold5 100000 = true := by decide +kernel
theorem ks_Wo_doTiesHold5_0 : chk1A GX DH 3000 sct_Wo_doTiesHold5 sw_Wo_doTiesHold5 shn_Wo_doTiesHold0 slb_Wo_doTiesHold5 [] san_Wo_doTiesHold5 a1_Wo_doTiesHold5_0 = true := by decide +kernel
theorem ks_Wo_doTiesHold5_1 : chk1A GX DH 3000 sct_Wo_doTiesHold5 sw_Wo_doTiesHold5 shn_Wo_doTiesHold0 slb_Wo_doTiesHold5 [] san_Wo_doTiesHold5 a1_Wo_doTiesHold5_1 = true := by decide +kernel
theorem ks_Wo_doTiesHold5_2 : chk1A GX DH 3000 sct_Wo_doTiesHold5 sw_Wo_doTiesHold5 shn_Wo_doTiesHold0 slb_Wo_doTiesHold5 [] san_Wo_doTiesHold5 a1_Wo_doTiesHold5_2 = true := by decide +kernel
theorem ks_Wo_doTiesHold6_r : chk1E GX DH 3000 184 sct_Wo_doTiesHold6 sw_Wo_doTiesHold6 shn_Wo_doTiesHold0 slb_Wo_doTiesHold6 [] san_Wo_doTiesHold6 100000 = true := by decide +kernel
theorem ks_Wo_doTiesHold6_0 : chk1A GX DH 3000 sct_Wo_doTiesHold6 sw_Wo_doTiesHold6 shn_Wo_doTiesHold0 slb_Wo_doTiesHold6 [] san_Wo_doTiesHold6 a1_Wo_doTiesHold6_0 = true := by decide +kernel
theorem ks_Wo_doTiesHold6_1 : chk1A GX DH 3000 sct_Wo_doTiesHold6 sw_Wo_doTiesHold6 shn_Wo_doTiesHold0 slb_Wo_doTiesHold6 [] san_Wo_doTiesHold6 a1_Wo_doTiesHold6_1 = true := by decide +kernel
theorem ks_Wo_doTiesHold6_2 : chk1A GX DH 3000 sct_Wo_doTiesHold6 sw_Wo_doTiesHold6 shn_Wo_doTiesHold0 slb_Wo_doTiesHold6 [] san_Wo_doTiesHold6 a1_Wo_doTiesHold6_2 = true := by decide +kernel
theorem ks_Wo_searchFrom3_r : chk1E GX DH 3000 185 sct_Wo_searchFrom3 sw_Wo_searchFrom3 shn_Wo_searchFrom3 slb_Wo_searchFrom3 sn_Wo_searchFrom3 san_Wo_searchFrom3 100000 = true := by decide +kernel
theorem ks_Wo_searchFrom3_0 : chk1A GX DH 3000 sct_Wo_searchFrom3 sw_Wo_searchFrom3 shn_Wo_searchFrom3 slb_Wo_searchFrom3 sn_Wo_searchFrom3 san_Wo_searchFrom3 a1_Wo_searchFrom3_0 = true := by decide +kernel
theorem ks_Wo_doTiesHold7_r : chk1E GX DH 3000 184 sct_Wo_doTiesHold7 sw_Wo_doTiesHold7 shn_Wo_doTiesHold0 slb_Wo_doTiesHold7 [] san_Wo_doTiesHold7 100000 = true := by decide +kernel
theorem ks_Wo_doTiesHold7_0 : chk1A GX DH 3000 sct_Wo_doTiesHold7 sw_Wo_doTiesHold7 shn_Wo_doTiesHold0 slb_Wo_doTiesHold7 [] san_Wo_doTiesHold7 a1_Wo_doTiesHold7_0 = true := by decide +kernel
theorem ks_Wo_doTiesHold7_1 : chk1A GX DH 3000 sct_Wo_doTiesHold7 sw_Wo_doTiesHold7 shn_Wo_doTiesHold0 slb_Wo_doTiesHold7 [] san_Wo_doTiesHold7 a1_Wo_doTiesHold7_1 = true := by decide +kernel
theorem ks_Wo_doTiesHold7_2 : chk1A GX DH 3000 sct_Wo_doTiesHold7 sw_Wo_doTiesHold7 shn_Wo_doTiesHold0 slb_Wo_doTiesHold7 [] san_Wo_doTiesHold7 a1_Wo_doTiesHold7_2 = true := by decide +kernel
theorem ks_Wo_doTiesHold8_r : chk1E GX DH 3000 184 sct_Wo_doTiesHold8 sw_Wo_doTiesHold8 shn_Wo_doTiesHold0 slb_Wo_doTiesHold8 [] san_Wo_doTiesHold8 100000 = true := by decide +kernel
theorem ks_Wo_doTiesHold8_0 : chk1A GX DH 3000 sct_Wo_doTiesHold8 sw_Wo_doTiesHold8 shn_Wo_doTiesHold0 slb_Wo_doTiesHold8 [] san_Wo_doTiesHold8 a1_Wo_doTiesHold8_0 = true := by decide +kernel
theorem ks_Wo_doTiesHold8_1 : chk1A GX DH 3000 sct_Wo_doTiesHold8 sw_Wo_doTiesHold8 shn_Wo_doTiesHold0 slb_Wo_doTiesHold8 [] san_Wo_doTiesHold8 a1_Wo_doTiesHold8_1 = true := by decide +kernel
theorem ks_Wo_doTiesHold8_2 : chk1A GX DH 3000 sct_Wo_doTiesHold8 sw_Wo_doTiesHold8 shn_Wo_doTiesHold0 slb_Wo_doTiesHold8 [] san_Wo_doTiesHold8 a1_Wo_doTiesHold8_2 = true := by decide +kernel
theorem ks_Wo_searchFrom4_r : chk1E GX DH 3000 185 sct_Wo_searchFrom4 sw_Wo_searchFrom4 shn_Wo_searchFrom4 slb_Wo_searchFrom4 sn_Wo_searchFrom4 san_Wo_searchFrom4 100000 = true := by decide +kernel
theorem ks_Wo_searchFrom4_0 : chk1A GX DH 3000 sct_Wo_searchFrom4 sw_Wo_searchFrom4 shn_Wo_searchFrom4 slb_Wo_searchFrom4 sn_Wo_searchFrom4 san_Wo_searchFrom4 a1_Wo_searchFrom4_0 = true := by decide +kernel
theorem ks_Wo_doTiesHold9_r : chk1E GX DH 3000 184 sct_Wo_doTiesHold9 sw_Wo_doTiesHold9 shn_Wo_doTiesHold0 slb_Wo_doTiesHold9 [] san_Wo_doTiesHold9 100000 = true := by decide +kernel
