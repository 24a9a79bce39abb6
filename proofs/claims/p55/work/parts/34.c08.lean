theorem k2_lend4u_r : chk2 GX pc_lend DH 3000 r2_lend4u = true := by decide +kernel
