theorem k2_copyv4_r : chk2 GX pc_copy DH 3000 r2_copyv4 = true := by decide +kernel
