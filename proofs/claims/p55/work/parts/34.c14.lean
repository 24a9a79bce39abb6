theorem k2_lend_20 : chk2 GX pc_lend DH 3000 a2_lend_20 = true := by decide +kernel
theorem k2_lend_21 : chk2 GX pc_lend DH 3000 a2_lend_21 = true := by decide +kernel
theorem k2_lend_22 : chk2 GX pc_lend DH 3000 a2_lend_22 = true := by decide +kernel
theorem k2_lend_23 : chk2 GX pc_lend DH 3000 a2_lend_23 = true := by decide +kernel
theorem k2_lend_24 : chk2 GX pc_lend DH 3000 a2_lend_24 = true := by decide +kernel
