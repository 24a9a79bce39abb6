theorem k2_tick_r : chk2 GX pc_tick DH 3000 r2_tick = true := by decide +kernel
theorem k2_holds_r : chk2 GX pc_holds DH 3000 r2_holds = true := by decide +kernel
theorem k2_holds_0 : chk2 GX pc_holds DH 3000 a2_holds_0 = true := by decide +kernel
theorem k2_holds_1 : chk2 GX pc_holds DH 3000 a2_holds_1 = true := by decide +kernel
theorem k2_holds_2 : chk2 GX pc_holds DH 3000 a2_holds_2 = true := by decide +kernel
theorem k2_holds_3 : chk2 GX pc_holds DH 3000 a2_holds_3 = true := by decide +kernel
theorem k2_holds_4 : chk2 GX pc_holds DH 3000 a2_holds_4 = true := by decide +kernel
theorem k2_holds_5 : chk2 GX pc_holds DH 3000 a2_holds_5 = true := by decide +kernel
theorem k2_holds_6 : chk2 GX pc_holds DH 3000 a2_holds_6 = true := by decide +kernel
theorem k2_holds_7 : chk2 GX pc_holds DH 3000 a2_holds_7 = true := by decide +kernel
theorem k2_holds_8 : chk2 GX pc_holds DH 3000 a2_holds_8 = true := by decide +kernel
theorem k2_holds_9 : chk2 GX pc_holds DH 3000 a2_holds_9 = true := by decide +kernel
theorem k2_holds_10 : chk2 GX pc_holds DH 3000 a2_holds_10 = true := by decide +kernel
theorem k2_holds_11 : chk2 GX pc_holds DH 3000 a2_holds_11 = true := by decide +kernel
theorem k2_holds_12 : chk2 GX pc_holds DH 3000 a2_holds_12 = true := by decide +kernel
theorem k2_holds_13 : chk2 GX pc_holds DH 3000 a2_holds_13 = true := by decide +kernel
theorem k2_holds_14 : chk2 GX pc_holds DH 3000 a2_holds_14 = true := by decide +kernel
theorem k2_holds_15 : chk2 GX pc_holds DH 3000 a2_holds_15 = true := by decide +kernel
theorem k2_holds_16 : chk2 GX pc_holds DH 3000 a2_holds_16 = true := by decide +kernel
theorem ks_Th_isUnder0_r : chk1E GX DH 3000 45 sct_Th_isUnder0 sw_Th_isUnder0 shn_Th_isUnder0 slb_Th_isUnder0 [] san_Th_isUnder0 100000 = true := by decide +kernel
theorem ks_Th_isUnder0_0 : chk1A GX DH 3000 sct_Th_isUnder0 sw_Th_isUnder0 shn_Th_isUnder0 slb_Th_isUnder0 [] san_Th_isUnder0 a1_Th_isUnder0_0 = true := by decide +kernel
