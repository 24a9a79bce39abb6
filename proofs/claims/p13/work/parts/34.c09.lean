theorem k2_copyv7_r : chk2 GX pc_copy DH 3000 r2_copyv7 = true := by decide +kernel
