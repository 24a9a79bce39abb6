theorem k2_put_6 : chk2 GX pc_put DH 3000 a2_put_6 = true := by decide +kernel
theorem k2_put_7 : chk2 GX pc_put DH 3000 a2_put_7 = true := by decide +kernel
theorem k2_put_8 : chk2 GX pc_put DH 3000 a2_put_8 = true := by decide +kernel
theorem k2_put_9 : chk2 GX pc_put DH 3000 a2_put_9 = true := by decide +kernel
theorem k2_put_10 : chk2 GX pc_put DH 3000 a2_put_10 = true := by decide +kernel
theorem k2_put_11 : chk2 GX pc_put DH 3000 a2_put_11 = true := by decide +kernel
theorem k2_back_r : chk2 GX pc_back DH 3000 r2_back = true := by decide +kernel
theorem k2_law_r : chk2 GX pc_law DH 3000 r2_law = true := by decide +kernel
theorem ks_Wh_groupsOf0_r : chk1E GX DH 3000 21 sct_Wh_groupsOf0 sw_Wh_groupsOf0 shn_Wh_groupsOf0 slb_Wh_groupsOf0 [] san_Wh_groupsOf0 100000 = true := by decide +kernel
