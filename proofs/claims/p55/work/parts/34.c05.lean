theorem k2_lend1x_r : chk2 GX pc_lend DH 3000 r2_lend1x = true := by decide +kernel
theorem k2_lend2x_r : chk2 GX pc_lend DH 3000 r2_lend2x = true := by decide +kernel
