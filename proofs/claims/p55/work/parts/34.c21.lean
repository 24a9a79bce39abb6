theorem k2_stands_r : chk2 GX pc_stands DH 3000 r2_stands = true := by decide +kernel
theorem k2_stands_0 : chk2 GX pc_stands DH 3000 a2_stands_0 = true := by decide +kernel
theorem k2_stands_1 : chk2 GX pc_stands DH 3000 a2_stands_1 = true := by decide +kernel
