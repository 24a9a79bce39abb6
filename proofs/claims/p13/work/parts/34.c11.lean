theorem k2_copyv9_r : chk2 GX pc_copy DH 3000 r2_copyv9 = true := by decide +kernel
