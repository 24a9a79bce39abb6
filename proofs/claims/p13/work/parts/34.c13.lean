theorem k2_copyv11_r : chk2 GX pc_copy DH 3000 r2_copyv11 = true := by decide +kernel
theorem k2_copyv12_r : chk2 GX pc_copy DH 3000 r2_copyv12 = true := by decide +kernel
theorem k2_copyv13_r : chk2 GX pc_copy DH 3000 r2_copyv13 = true := by decide +kernel
