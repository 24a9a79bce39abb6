theorem k2_copyv23_r : chk2 GX pc_copy DH 3000 r2_copyv23 = true := by decide +kernel
