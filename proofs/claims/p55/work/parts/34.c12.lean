theorem k2_lendok_r : chk2 GX pc_lend DH 3000 r2_lendok = true := by decide +kernel
