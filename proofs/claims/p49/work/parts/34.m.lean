theorem ks_Wo_doTiesHold21_0 : chk1A GX DH 3000 sct_Wo_doTiesHold21 sw_Wo_doTiesHold21 shn_Wo_doTiesHold0 slb_Wo_doTiesHold21 [] san_Wo_doTiesHold21 a1_Wo_doTiesHold21_0 = true := by decide +kernel
theorem ks_Wo_doTiesHold21_1 : chk1A GX DH 3000 sct_Wo_doTiesHold21 sw_Wo_doTiesHold21 shn_Wo_doTiesHold0 slb_Wo_doTiesHold21 [] san_Wo_doTiesHold21 a1_Wo_doTiesHold21_1 = true := by decide +kernel
theorem ks_Wo_doTiesHold21_2 : chk1A GX DH 3000 sct_Wo_doTiesHold21 sw_Wo_doTiesHold21 shn_Wo_doTiesHold0 slb_Wo_doTiesHold21 [] san_Wo_doTiesHold21 a1_Wo_doTiesHold21_2 = true := by decide +kernel
theorem ks_Wo_doTiesHold22_r : chk1E GX DH 3000 184 sct_Wo_doTiesHold22 sw_Wo_doTiesHold22 shn_Wo_doTiesHold0 slb_Wo_doTiesHold22 [] san_Wo_doTiesHold22 100000 = true := by decide +kernel
theorem ks_Wo_doTiesHold22_0 : chk1A GX DH 3000 sct_Wo_doTiesHold22 sw_Wo_doTiesHold22 shn_Wo_doTiesHold0 slb_Wo_doTiesHold22 [] san_Wo_doTiesHold22 a1_Wo_doTiesHold22_0 = true := by decide +kernel
theorem ks_Wo_doTiesHold22_1 : chk1A GX DH 3000 sct_Wo_doTiesHold22 sw_Wo_doTiesHold22 shn_Wo_doTiesHold0 slb_Wo_doTiesHold22 [] san_Wo_doTiesHold22 a1_Wo_doTiesHold22_1 = true := by decide +kernel
theorem ks_Wo_doTiesHold22_2 : chk1A GX DH 3000 sct_Wo_doTiesHold22 sw_Wo_doTiesHold22 shn_Wo_doTiesHold0 slb_Wo_doTiesHold22 [] san_Wo_doTiesHold22 a1_Wo_doTiesHold22_2 = true := by decide +kernel
theorem ks_Wo_searchFrom11_r : chk1E GX DH 3000 185 sct_Wo_searchFrom11 sw_Wo_searchFrom11 shn_Wo_searchFrom2 slb_Wo_searchFrom11 sn_Wo_searchFrom11 san_Wo_searchFrom11 100000 = true := by decide +kernel
theorem ks_Wo_searchFrom11_0 : chk1A GX DH 3000 sct_Wo_searchFrom11 sw_Wo_searchFrom11 shn_Wo_searchFrom2 slb_Wo_searchFrom11 sn_Wo_searchFrom11 san_Wo_searchFrom11 a1_Wo_searchFrom11_0 = true := by decide +kernel
theorem ks_Wo_doTiesHold23_r : chk1E GX DH 3000 184 sct_Wo_doTiesHold23 sw_Wo_doTiesHold23 shn_Wo_doTiesHold0 slb_Wo_doTiesHold23 [] san_Wo_doTiesHold23 100000 = true := by decide +kernel
theorem ks_Wo_doTiesHold23_0 : chk1A GX DH 3000 sct_Wo_doTiesHold23 sw_Wo_doTiesHold23 shn_Wo_doTiesHold0 slb_Wo_doTiesHold23 [] san_Wo_doTiesHold23 a1_Wo_doTiesHold23_0 = true := by decide +kernel
theorem ks_Wo_doTiesHold23_1 : chk1A GX DH 3000 sct_Wo_doTiesHold23 sw_Wo_doTiesHold23 shn_Wo_doTiesHold0 slb_Wo_doTiesHold23 [] san_Wo_doTiesHold23 a1_Wo_doTiesHold23_1 = true := by decide +kernel
theorem ks_Wo_doTiesHold23_2 : chk1A GX DH 3000 sct_Wo_doTiesHold23 sw_Wo_doTiesHold23 shn_Wo_doTiesHold0 slb_Wo_doTiesHold23 [] san_Wo_doTiesHold23 a1_Wo_doTiesHold23_2 = true := by decide +kernel
theorem ks_Wo_doTiesHold24_r : chk1E GX DH 3000 184 sct_Wo_doTiesHold24 sw_Wo_doTiesHold24 shn_Wo_doTiesHold0 slb_Wo_doTiesHold24 [] san_Wo_doTiesHold24 100000 = true := by decide +kernel
theorem ks_Wo_doTiesHold24_0 : chk1A GX DH 3000 sct_Wo_doTiesHold24 sw_Wo_doTiesHold24 shn_Wo_doTiesHold0 slb_Wo_doTiesHold24 [] san_Wo_doTiesHold24 a1_Wo_doTiesHold24_0 = true := by decide +kernel
theorem ks_Wo_doTiesHold24_1 : chk1A GX DH 3000 sct_Wo_doTiesHold24 sw_Wo_doTiesHold24 shn_Wo_doTiesHold0 slb_Wo_doTiesHold24 [] san_Wo_doTiesHold24 a1_Wo_doTiesHold24_1 = true := by decide +kernel
theorem ks_Wo_doTiesHold24_2 : chk1A GX DH 3000 sct_Wo_doTiesHold24 sw_Wo_doTiesHold24 shn_Wo_doTiesHold0 slb_Wo_doTiesHold24 [] san_Wo_doTiesHold24 a1_Wo_doTiesHold24_2 = true := by decide +kernel
theorem ks_Wo_searchFrom12_r : chk1E GX DH 3000 185 sct_Wo_searchFrom12 sw_Wo_searchFrom12 shn_Wo_searchFrom3 slb_Wo_searchFrom12 sn_Wo_searchFrom12 san_Wo_searchFrom12 100000 = true := by decide +kernel
theorem ks_Wo_searchFrom12_0 : chk1A GX DH 3000 sct_Wo_searchFrom12 sw_Wo_searchFrom12 shn_Wo_searchFrom3 slb_Wo_searchFrom12 sn_Wo_searchFrom12 san_Wo_searchFrom12 a1_Wo_searchFrom12_0 = true := by decide +kernel
theorem ks_Wo_doTiesHold25_r : chk1E GX DH 3000 184 sct_Wo_doTiesHold25 sw_Wo_doTiesHold25 shn_Wo_doTiesHold0 slb_Wo_doTiesHold25 [] san_Wo_doTiesHold25 100000 = true := by decide +kernel
theorem ks_Wo_doTiesHold25_0 : chk1A GX DH 3000 sct_Wo_doTiesHold25 sw_Wo_doTiesHold25 shn_Wo_doTiesHold0 slb_Wo_doTiesHold25 [] san_Wo_doTiesHold25 a1_Wo_doTiesHold25_0 = true := by decide +kernel
theorem ks_Wo_doTiesHold25_1 : chk1A GX DH 3000 sct_Wo_doTiesHold25 sw_Wo_doTiesHold25 shn_Wo_doTiesHold0 slb_Wo_doTiesHold25 [] san_Wo_doTiesHold25 a1_Wo_doTiesHold25_1 = true := by decide +kernel
theorem ks_Wo_doTiesHold25_2 : chk1A GX DH 3000 sct_Wo_doTiesHold25 sw_Wo_doTiesHold25 shn_Wo_doTiesHold0 slb_Wo_doTiesHold25 [] san_Wo_doTiesHold25 a1_Wo_doTiesHold25_2 = true := by decide +kernel
theorem ks_Wo_doTiesHold26_r : chk1E GX DH 3000 184 sct_Wo_doTiesHold26 sw_Wo_doTiesHold26 shn_Wo_doTiesHold0 slb_Wo_doTiesHold26 [] san_Wo_doTiesHold26 100000 = true := by decide +kernel
theorem ks_Wo_doTiesHold26_0 : chk1A GX DH 3000 sct_Wo_doTiesHold26 sw_Wo_doTiesHold26 shn_Wo_doTiesHold0 slb_Wo_doTiesHold26 [] san_Wo_doTiesHold26 a1_Wo_doTiesHold26_0 = true := by decide +kernel
theorem ks_Wo_doTiesHold26_1 : chk1A GX DH 3000 sct_Wo_doTiesHold26 sw_Wo_doTiesHold26 shn_Wo_doTiesHold0 slb_Wo_doTiesHold26 [] san_Wo_doTiesHold26 a1_Wo_doTiesHold26_1 = true := by decide +kernel
theorem ks_Wo_doTiesHold26_2 : chk1A GX DH 3000 sct_Wo_doTiesHold26 sw_Wo_doTiesHold26 shn_Wo_doTiesHold0 slb_Wo_doTiesHold26 [] san_Wo_doTiesHold26 a1_Wo_doTiesHold26_2 = true := by decide +kernel
theorem ks_Wo_searchFrom13_r : chk1E GX DH 3000 185 sct_Wo_searchFrom13 sw_Wo_searchFrom13 shn_Wo_searchFrom4 slb_Wo_searchFrom13 sn_Wo_searchFrom13 san_Wo_searchFrom13 100000 = true := by decide +kernel
theorem ks_Wo_searchFrom13_0 : chk1A GX DH 3000 sct_Wo_searchFrom13 sw_Wo_searchFrom13 shn_Wo_searchFrom4 slb_Wo_searchFrom13 sn_Wo_searchFrom13 san_Wo_searchFrom13 a1_Wo_searchFrom13_0 = true := by decide +kernel
theorem ks_Wo_doTiesHold27_r : chk1E GX DH 3000 184 sct_Wo_doTiesHold27 sw_Wo_doTiesHold27 shn_Wo_doTiesHold0 slb_Wo_doTiesHold27 [] san_Wo_doTiesHold27 100000 = true := by decide +kernel
theorem ks_Wo_doTiesHold27_0 : chk1A GX DH 3000 sct_Wo_doTiesHold27 sw_Wo_doTiesHold27 shn_Wo_doTiesHold0 slb_Wo_doTiesHold27 [] san_Wo_doTiesHold27 a1_Wo_doTiesHold27_0 = true := by decide +kernel
theorem ks_Wo_doTiesHold27_1 : chk1A GX DH 3000 sct_Wo_doTiesHold27 sw_Wo_doTiesHold27 shn_Wo_doTiesHold0 slb_Wo_doTiesHold27 [] san_Wo_doTiesHold27 a1_Wo_doTiesHold27_1 = true := by decide +kernel
theorem ks_Wo_doTiesHold27_2 : chk1A GX DH 3000 sct_Wo_doTiesHold27 sw_Wo_doTiesHold27 shn_Wo_doTiesHold0 slb_Wo_doTiesHold27 [] san_Wo_doTiesHold27 a1_Wo_doTiesHold27_2 = true := by decide +kernel
theorem ks_Wo_doTiesHold28_r : chk1E GX DH 3000 184 sct_Wo_doTiesHold28 sw_Wo_doTiesHold28 shn_Wo_doTiesHold0 slb_Wo_doTiesHold28 [] san_Wo_doTiesHold28 100000 = true := by decide +kernel
theorem ks_Wo_doTiesHold28_0 : chk1A GX DH 3000 sct_Wo_doTiesHold28 sw_Wo_doTiesHold28 shn_Wo_doTiesHold0 slb_Wo_doTiesHold28 [] san_Wo_doTiesHold28 a1_Wo_doTiesHold28_0 = true := by decide +kernel
theorem ks_Wo_doTiesHold28_1 : chk1A GX DH 3000 sct_Wo_doTiesHold28 sw_Wo_doTiesHold28 shn_Wo_doTiesHold0 slb_Wo_doTiesHold28 [] san_Wo_doTiesHold28 a1_Wo_doTiesHold28_1 = true := by decide +kernel
theorem ks_Wo_doTiesHold28_2 : chk1A GX DH 3000 sct_Wo_doTiesHold28 sw_Wo_doTiesHold28 shn_Wo_doTiesHold0 slb_Wo_doTiesHold28 [] san_Wo_doTiesHold28 a1_Wo_doTiesHold28_2 = true := by decide +kernel
theorem ks_Wo_searchFrom14_r : chk1E GX DH 3000 185 sct_Wo_searchFrom14 sw_Wo_searchFrom14 shn_Wo_searchFrom5 slb_Wo_searchFrom14 sn_Wo_searchFrom14 san_Wo_searchFrom14 100000 = true := by decide +kernel
theorem ks_Wo_searchFrom14_0 : chk1A GX DH 3000 sct_Wo_searchFrom14 sw_Wo_searchFrom14 shn_Wo_searchFrom5 slb_Wo_searchFrom14 sn_Wo_searchFrom14 san_Wo_searchFrom14 a1_Wo_searchFrom14_0 = true := by decide +kernel
theorem ks_Wo_doTiesHold29_r : chk1E GX DH 3000 184 sct_Wo_doTiesHold29 sw_Wo_doTiesHold29 shn_Wo_doTiesHold0 slb_Wo_doTiesHold29 [] san_Wo_doTiesHold29 100000 = true := by decide +kernel
theorem ks_Wo_doTiesHold29_0 : chk1A GX DH 3000 sct_Wo_doTiesHold29 sw_Wo_doTiesHold29 shn_Wo_doTiesHold0 slb_Wo_doTiesHold29 [] san_Wo_doTiesHold29 a1_Wo_doTiesHold29_0 = true := by decide +kernel
theorem ks_Wo_doTiesHold29_1 : chk1A GX DH 3000 sct_Wo_doTiesHold29 sw_Wo_doTiesHold29 shn_Wo_doTiesHold0 slb_Wo_doTiesHold29 [] san_Wo_doTiesHold29 a1_Wo_doTiesHold29_1 = true := by decide +kernel
theorem ks_Wo_doTiesHold29_2 : chk1A GX DH 3000 sct_Wo_doTiesHold29 sw_Wo_doTiesHold29 shn_Wo_doTiesHold0 slb_Wo_doTiesHold29 [] san_Wo_doTiesHold29 a1_Wo_doTiesHold29_2 = true := by decide +kernel
theorem ks_Wo_doTiesHold30_r : chk1E GX DH 3000 184 sct_Wo_doTiesHold30 sw_Wo_doTiesHold30 shn_Wo_doTiesHold0 slb_Wo_doTiesHold30 [] san_Wo_doTiesHold30 100000 = true := by decide +kernel
theorem ks_Wo_doTiesHold30_0 : chk1A GX DH 3000 sct_Wo_doTiesHold30 sw_Wo_doTiesHold30 shn_Wo_doTiesHold0 slb_Wo_doTiesHold30 [] san_Wo_doTiesHold30 a1_Wo_doTiesHold30_0 = true := by decide +kernel
theorem ks_Wo_doTiesHold30_1 : chk1A GX DH 3000 sct_Wo_doTiesHold30 sw_Wo_doTiesHold30 shn_Wo_doTiesHold0 slb_Wo_doTiesHold30 [] san_Wo_doTiesHold30 a1_Wo_doTiesHold30_1 = true := by decide +kernel
theorem ks_Wo_doTiesHold30_2 : chk1A GX DH 3000 sct_Wo_doTiesHold30 sw_Wo_doTiesHold30 shn_Wo_doTiesHold0 slb_Wo_doTiesHold30 [] san_Wo_doTiesHold30 a1_Wo_doTiesHold30_2 = true := by decide +kernel
