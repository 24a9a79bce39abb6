theorem k2_copyv21_r : chk2 GX pc_copy DH 3000 r2_copyv21 = true := by decide +kernel
