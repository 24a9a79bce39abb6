theorem k2_lend3x_r : chk2L9 GXL9 pc_lend DH 3000 r2_lend3x = true := by decide +kernel
