theorem k2_lend6l_r : chk2L9 GXL9 pc_lend DH 3000 r2_lend6l = true := by decide +kernel
