theorem k2_lend5u_r : chk2 GX pc_lend DH 3000 r2_lend5u = true := by decide +kernel
