theorem k2_copyv24_r : chk2 GX pc_copy DH 3000 r2_copyv24 = true := by decide +kernel
theorem k2_copy_0 : chk2 GX pc_copy DH 3000 a2_copy_0 = true := by decide +kernel
theorem k2_copy_1 : chk2 GX pc_copy DH 3000 a2_copy_1 = true := by decide +kernel
