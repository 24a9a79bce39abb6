theorem k2_enter_9 : chk2 GX pc_enter DH 3000 a2_enter_9 = true := by decide +kernel
theorem k2_enter_10 : chk2 GX pc_enter DH 3000 a2_enter_10 = true := by decide +kernel
