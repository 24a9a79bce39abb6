theorem k2_lend5l_r : chk2L9 GXL9 pc_lend DH 3000 r2_lend5l = true := by decide +kernel
