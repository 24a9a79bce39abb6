theorem k2_copyv1_r : chk2 GX pc_copy DH 3000 r2_copyv1 = true := by decide +kernel
