theorem k2_copyv3_r : chk2 GX pc_copy DH 3000 r2_copyv3 = true := by decide +kernel
