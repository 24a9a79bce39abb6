theorem k2_copyv5_r : chk2 GX pc_copy DH 3000 r2_copyv5 = true := by decide +kernel
theorem k2_copyv6_r : chk2 GX pc_copy DH 3000 r2_copyv6 = true := by decide +kernel
