theorem k2_copyv2_r : chk2 GX pc_copy DH 3000 r2_copyv2 = true := by decide +kernel
