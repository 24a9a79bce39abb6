theorem k2_tick_r : chk2 GX pc_tick DH 3000 r2_tick = true := by decide +kernel
theorem ks_Wh_reachedFrom0_r : chk1E GX DH 3000 15 sct_Wh_reachedFrom0 sw_Wh_reachedFrom0 shn_Wh_reachedFrom0 slb_Wh_reachedFrom0 [] san_Wh_reachedFrom0 100000 = true := by decide +kernel
theorem ks_Wh_reachedFrom0_0 : chk1A GX DH 3000 sct_Wh_reachedFrom0 sw_Wh_reachedFrom0 shn_Wh_reachedFrom0 slb_Wh_reachedFrom0 [] san_Wh_reachedFrom0 a1_Wh_reachedFrom0_0 = true := by decide +kernel
theorem ks_Wh_reachedFrom0_1 : chk1A GX DH 3000 sct_Wh_reachedFrom0 sw_Wh_reachedFrom0 shn_Wh_reachedFrom0 slb_Wh_reachedFrom0 [] san_Wh_reachedFrom0 a1_Wh_reachedFrom0_1 = true := by decide +kernel
theorem ks_Wh_reachedFrom0_2 : chk1A GX DH 3000 sct_Wh_reachedFrom0 sw_Wh_reachedFrom0 shn_Wh_reachedFrom0 slb_Wh_reachedFrom0 [] san_Wh_reachedFrom0 a1_Wh_reachedFrom0_2 = true := by decide +kernel
theorem k2_put_r : chk2 GX pc_put DH 3000 r2_put = true := by decide +kernel
theorem k2_put_0 : chk2 GX pc_put DH 3000 a2_put_0 = true := by decide +kernel
theorem k2_put_1 : chk2 GX pc_put DH 3000 a2_put_1 = true := by decide +kernel
theorem k2_put_2 : chk2 GX pc_put DH 3000 a2_put_2 = true := by decide +kernel
theorem k2_put_3 : chk2 GX pc_put DH 3000 a2_put_3 = true := by decide +kernel
theorem k2_put_4 : chk2 GX pc_put DH 3000 a2_put_4 = true := by decide +kernel
theorem k2_put_5 : chk2 GX pc_put DH 3000 a2_put_5 = true := by decide +kernel
