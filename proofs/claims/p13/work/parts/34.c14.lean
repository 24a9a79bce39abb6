theorem k2_copyv14_r : chk2 GX pc_copy DH 3000 r2_copyv14 = true := by decide +kernel
