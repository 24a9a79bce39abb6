theorem k2_lendok_r : chk2L9 GXL9 pc_lend DH 3000 r2_lendok = true := by decide +kernel
