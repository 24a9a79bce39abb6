theorem k2_lend_25 : chk2 GX pc_lend DH 3000 a2_lend_25 = true := by decide +kernel
theorem k2_lend_26 : chk2 GX pc_lend DH 3000 a2_lend_26 = true := by decide +kernel
theorem k2_lend_27 : chk2 GX pc_lend DH 3000 a2_lend_27 = true := by decide +kernel
