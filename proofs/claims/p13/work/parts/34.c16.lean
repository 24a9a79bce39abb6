theorem k2_copyv16_r : chk2 GX pc_copy DH 3000 r2_copyv16 = true := by decide +kernel
