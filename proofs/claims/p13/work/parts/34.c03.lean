theorem k2_copyv0_r : chk2 GX pc_copy DH 3000 r2_copyv0 = true := by decide +kernel
