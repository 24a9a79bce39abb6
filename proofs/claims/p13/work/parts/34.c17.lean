theorem k2_copyv17_r : chk2 GX pc_copy DH 3000 r2_copyv17 = true := by decide +kernel
theorem k2_copyv18_r : chk2 GX pc_copy DH 3000 r2_copyv18 = true := by decide +kernel
