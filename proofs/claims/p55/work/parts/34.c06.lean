theorem k2_lend3x_r : chk2 GX pc_lend DH 3000 r2_lend3x = true := by decide +kernel
