theorem k2_lend6l_r : chk2 GX pc_lend DH 3000 r2_lend6l = true := by decide +kernel
