theorem k2_useRight_27 : chk2L9 GXL9 pc_useRight DH 3000 a2_useRight_27 = true := by decide +kernel
