theorem k2_lend_r : chk2 GX pc_lend DH 3000 r2_lend = true := by decide +kernel
