theorem k2_gain_r : chk2 GX pc_gain DH 3000 r2_gain = true := by decide +kernel
