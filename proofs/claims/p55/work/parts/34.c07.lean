theorem k2_lend4l_r : chk2 GX pc_lend DH 3000 r2_lend4l = true := by decide +kernel
