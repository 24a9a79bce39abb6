theorem k2_lend5l_r : chk2 GX pc_lend DH 3000 r2_lend5l = true := by decide +kernel
