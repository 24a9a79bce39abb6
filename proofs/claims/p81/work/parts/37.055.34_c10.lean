theorem k2_lend5u_r : chk2L9 GXL9 pc_lend DH 3000 r2_lend5u = true := by decide +kernel
