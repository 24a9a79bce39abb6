theorem k2_enter_r : chk2 GX pc_enter DH 3000 r2_enter = true := by decide +kernel
theorem k2_enter_0 : chk2 GX pc_enter DH 3000 a2_enter_0 = true := by decide +kernel
theorem k2_enter_1 : chk2 GX pc_enter DH 3000 a2_enter_1 = true := by decide +kernel
theorem k2_enter_2 : chk2 GX pc_enter DH 3000 a2_enter_2 = true := by decide +kernel
theorem k2_enter_3 : chk2 GX pc_enter DH 3000 a2_enter_3 = true := by decide +kernel
theorem k2_enter_4 : chk2 GX pc_enter DH 3000 a2_enter_4 = true := by decide +kernel
theorem k2_enter_5 : chk2 GX pc_enter DH 3000 a2_enter_5 = true := by decide +kernel
