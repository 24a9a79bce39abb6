theorem k2_copyv22_r : chk2 GX pc_copy DH 3000 r2_copyv22 = true := by decide +kernel
