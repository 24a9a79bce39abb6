theorem k2_copyv20_r : chk2 GX pc_copy DH 3000 r2_copyv20 = true := by decide +kernel
