theorem k2_lend1x_r : chk2L9 GXL9 pc_lend DH 3000 r2_lend1x = true := by decide +kernel
theorem k2_lend2x_r : chk2L9 GXL9 pc_lend DH 3000 r2_lend2x = true := by decide +kernel
