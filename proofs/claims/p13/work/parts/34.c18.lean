theorem k2_copyv19_r : chk2 GX pc_copy DH 3000 r2_copyv19 = true := by decide +kernel
