theorem k2_useRight_27 : chk2 GX pc_useRight DH 3000 a2_useRight_27 = true := by decide +kernel
