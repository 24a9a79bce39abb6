theorem k2_lend4u_r : chk2L9 GXL9 pc_lend DH 3000 r2_lend4u = true := by decide +kernel
