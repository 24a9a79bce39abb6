theorem k2_useRight_r : chk2 GX pc_useRight DH 3000 r2_useRight = true := by decide +kernel
theorem k2_useRight_0 : chk2 GX pc_useRight DH 3000 a2_useRight_0 = true := by decide +kernel
theorem k2_useRight_1 : chk2 GX pc_useRight DH 3000 a2_useRight_1 = true := by decide +kernel
theorem k2_useRight_2 : chk2 GX pc_useRight DH 3000 a2_useRight_2 = true := by decide +kernel
