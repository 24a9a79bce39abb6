theorem k2_copyv15_r : chk2 GX pc_copy DH 3000 r2_copyv15 = true := by decide +kernel
