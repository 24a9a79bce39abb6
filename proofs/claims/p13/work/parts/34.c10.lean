theorem k2_copyv8_r : chk2 GX pc_copy DH 3000 r2_copyv8 = true := by decide +kernel
