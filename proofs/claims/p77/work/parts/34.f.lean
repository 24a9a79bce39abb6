theorem k2_enter_6 : chk2 GX pc_enter DH 3000 a2_enter_6 = true := by decide +kernel
theorem k2_enter_7 : chk2 GX pc_enter DH 3000 a2_enter_7 = true := by decide +kernel
theorem k2_enter_8 : chk2 GX pc_enter DH 3000 a2_enter_8 = true := by decide +kernel
