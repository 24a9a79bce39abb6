theorem k2_copyv10_r : chk2 GX pc_copy DH 3000 r2_copyv10 = true := by decide +kernel
